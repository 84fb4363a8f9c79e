set_option maxHeartbeats 800000 in
theorem c_X9_registers_3 {σ : zq_S} (hσ : zc_T σ)   : zq_C zc_w yX9_registers cX9_registers 1 (some .int) 0 0 284 284 [ZR 3] σ (zq_pp σ (fun r => (1 ≤ r ∧ r ≤ 8) ∧ r = zx_p2 (σ 3 1))) := by
  refine zq_C_of (by decide) (Nat.le_refl _) (Nat.le_of_ble_eq_true rfl) [some (ZR 3)] rfl (fun V hV => ?_)
  show V 0 [some (ZR 3)] [] 284 σ
  refine zr_iconst (pc := 0) hV 1 dX9_registers_0 rfl ?_
  refine zr_aload_n (pc := 1) hV dX9_registers_1 rfl rfl ?_
  refine zr_getI (pc := 2) hV 1 dX9_registers_2 fX9_30 rfl rfl (zc_k3 zc_s3) (zc_pos zc_s3 rfl) ?_
  have t1 := zc_g3_1 hσ zc_s3
  refine zr_ishl (pc := 5) hV dX9_registers_5 ?_
  have t2 := zx_shl_one (y := σ 3 1) 3 8 (by decide) (by decide) (by omega)
  exact zr_iret (pc := 6) hV dX9_registers_6 rfl rfl ⟨rfl, _, rfl, (by omega), (by omega)⟩
set_option maxHeartbeats 800000 in
theorem c_X3_fieldLetters_2 {σ : zq_S} (hσ : zc_T σ) (this : Int) (kthis : zc_kd this = 4)  : zq_C zc_w yX3_fieldLetters cX3_fieldLetters 3 (some .int) 1 21 284 284 [ZR this] σ (zq_pp σ (fun r => r = zu_fl (σ (this + 1)) 4)) := by
  refine zq_C_of (by decide) (Nat.le_refl _) (Nat.le_of_ble_eq_true rfl) [some (ZR this), none, none] rfl (fun V hV => ?_)
  have pothis := zc_pos kthis rfl
  show V 0 [some (ZR this), none, none] [] 284 σ
  refine zr_iconst (pc := 0) hV 0 dX3_fieldLetters_0 rfl ?_
  refine zr_istore_n (pc := 1) hV [some (ZR this), some (ZI 0), none] dX3_fieldLetters_1 rfl (by decide) rfl rfl ?_
  refine zr_iconst (pc := 2) hV 0 dX3_fieldLetters_2 rfl ?_
  refine zr_istore_n (pc := 3) hV [some (ZR this), some (ZI 0), some (ZI 0)] dX3_fieldLetters_3 rfl (by decide) rfl rfl ?_
  have L4 : ∀ (fuel : Nat) (x1_4 : Int) (x2_4 : Int), ((-2147483648) ≤ x1_4 ∧ x1_4 ≤ 2147483647) → (0 ≤ x2_4 ∧ x2_4 ≤ 4) → (x1_4 = zu_fl (σ (this + 1)) x2_4) → 4 - x2_4 < (fuel : Int) → V 4 [some (ZR this), some (ZI x1_4), some (ZI x2_4)] [] 284 σ := by
    intro fuel
    induction fuel with
    | zero =>
      intro x1_4 x2_4 hx1_4 hx2_4 hi4_0 hm4
      exfalso; omega
    | succ fuel ih =>
      intro x1_4 x2_4 hx1_4 hx2_4 hi4_0 hm4
      have ih4 := ih
      show V 4 [some (ZR this), some (ZI x1_4), some (ZI x2_4)] [] 284 σ
      refine zr_iload_n (pc := 4) hV dX3_fieldLetters_4 rfl rfl ?_
      refine zr_iconst (pc := 5) hV 3 dX3_fieldLetters_5 rfl ?_
      refine zr_icmp_gt (pc := 6) hV 33 dX3_fieldLetters_6 (by decide) (by omega) ⟨by decide, by decide⟩ (fun c1 => ?_) (fun c1 => ?_)
      · show V 33 [some (ZR this), some (ZI x1_4), some (ZI x2_4)] [] 284 σ
        refine zr_iload_n (pc := 33) hV dX3_fieldLetters_33 rfl rfl ?_
        exact zr_iret (pc := 34) hV dX3_fieldLetters_34 rfl rfl ⟨rfl, _, rfl, (by omega), (by rw [show (4 : Int) = x2_4 by omega]; exact hi4_0)⟩
      · show V 9 [some (ZR this), some (ZI x1_4), some (ZI x2_4)] [] 284 σ
        refine zr_iload_n (pc := 9) hV dX3_fieldLetters_9 rfl rfl ?_
        refine zr_aload_n (pc := 10) hV dX3_fieldLetters_10 rfl rfl ?_
        refine zr_iload_n (pc := 11) hV dX3_fieldLetters_11 rfl rfl ?_
        refine zr_callVp (pc := 12) hV [ZI x2_4] (st := [ZI x1_4]) (c_X3_hasField_2 (σ := σ) hσ this kthis x2_4 (by omega)) dX3_fieldLetters_12 mX3_83 (zc_k4 kthis) (zc_pos kthis rfl) (by decide) (Nat.le_of_ble_eq_true rfl) (Nat.le_refl _) (fun r12 hr12 pr12 => ?_)
        refine zr_if_eq (pc := 15) hV 24 dX3_fieldLetters_15 (by decide) (by omega) (fun c2 => ?_) (fun c2 => ?_)
        · show V 24 [some (ZR this), some (ZI x1_4), some (ZI x2_4)] [ZI x1_4] 284 σ
          refine zr_iconst (pc := 24) hV 0 dX3_fieldLetters_24 rfl ?_
          show V 25 [some (ZR this), some (ZI x1_4), some (ZI x2_4)] [ZI 0, ZI x1_4] 284 σ
          refine zr_ior (pc := 25) hV dX3_fieldLetters_25 ?_
          have t3 := zq_or_in x1_4 0
          refine zr_istore_n (pc := 26) hV [some (ZR this), some (ZI (zq_or x1_4 0)), some (ZI x2_4)] dX3_fieldLetters_26 rfl (by decide) rfl rfl ?_
          refine zr_iinc (pc := 27) hV [some (ZR this), some (ZI (zq_or x1_4 0)), some (ZI (x2_4 + 1))] (x2_4 + 1) dX3_fieldLetters_27 rfl rfl (by decide) rfl rfl ?_
          refine zr_goto (pc := 30) hV 4 dX3_fieldLetters_30 (by decide) ?_
          exact ih4 (zq_or x1_4 0) (x2_4 + 1) (by omega) (by omega) (by rw [(zu_fl_s (σ (this + 1)) (n := x2_4) (by omega)).2 (by omega), ← hi4_0]) (by omega)
        · show V 18 [some (ZR this), some (ZI x1_4), some (ZI x2_4)] [ZI x1_4] 284 σ
          refine zr_iconst (pc := 18) hV 1 dX3_fieldLetters_18 rfl ?_
          refine zr_iload_n (pc := 19) hV dX3_fieldLetters_19 rfl rfl ?_
          refine zr_ishl (pc := 20) hV dX3_fieldLetters_20 ?_
          have t4 := zx_shl_one (y := x2_4) 3 8 (by decide) (by decide) (by omega)
          refine zr_goto (pc := 21) hV 25 dX3_fieldLetters_21 (by decide) ?_
          show V 25 [some (ZR this), some (ZI x1_4), some (ZI x2_4)] [ZI (zq_shl 1 x2_4), ZI x1_4] 284 σ
          refine zr_ior (pc := 25) hV dX3_fieldLetters_25 ?_
          have t5 := zq_or_in x1_4 (zq_shl 1 x2_4)
          refine zr_istore_n (pc := 26) hV [some (ZR this), some (ZI (zq_or x1_4 (zq_shl 1 x2_4))), some (ZI x2_4)] dX3_fieldLetters_26 rfl (by decide) rfl rfl ?_
          refine zr_iinc (pc := 27) hV [some (ZR this), some (ZI (zq_or x1_4 (zq_shl 1 x2_4))), some (ZI (x2_4 + 1))] (x2_4 + 1) dX3_fieldLetters_27 rfl rfl (by decide) rfl rfl ?_
          refine zr_goto (pc := 30) hV 4 dX3_fieldLetters_30 (by decide) ?_
          exact ih4 (zq_or x1_4 (zq_shl 1 x2_4)) (x2_4 + 1) (by omega) (by omega) (by rw [(zu_fl_s (σ (this + 1)) (n := x2_4) (by omega)).1 (by omega), ← hi4_0]) (by omega)
  exact L4 (4 - (0 : Int) + 1 : Int).toNat 0 0 (by omega) (by omega) (zu_fl_0 _).symm (by omega)
set_option maxHeartbeats 800000 in
theorem c_X9_isBits_2 {σ : zq_S} (hσ : zc_T σ) (bits : Int) (q0 : zq_in bits) : zq_C zc_w yX9_isBits cX9_isBits 2 (some .boolean) 1 20 284 284 [ZR 3, ZI bits] σ (zq_pp σ (fun r => (0 ≤ r ∧ r ≤ 1) ∧ (r = 1 → 0 ≤ bits ∧ bits ≤ 4095) ∧ (r = 1 ↔ 0 ≤ bits ∧ bits < zx_p2 (σ 3 2)))) := by
  refine zq_C_of (by decide) (Nat.le_refl _) (Nat.le_of_ble_eq_true rfl) [some (ZR 3), some (ZI bits)] rfl (fun V hV => ?_)
  show V 0 [some (ZR 3), some (ZI bits)] [] 284 σ
  refine zr_iload_n (pc := 0) hV dX9_isBits_0 rfl rfl ?_
  refine zr_if_lt (pc := 1) hV 16 dX9_isBits_1 (by decide) (by omega) (fun c1 => ?_) (fun c1 => ?_)
  · show V 16 [some (ZR 3), some (ZI bits)] [] 284 σ
    refine zr_iconst (pc := 16) hV 0 dX9_isBits_16 rfl ?_
    show V 17 [some (ZR 3), some (ZI bits)] [ZI 0] 284 σ
    exact zr_zret (pc := 17) hV dX9_isBits_17 rfl rfl (by omega) ⟨rfl, _, rfl, ⟨by decide, by decide⟩, (by omega)⟩
  · show V 4 [some (ZR 3), some (ZI bits)] [] 284 σ
    refine zr_iload_n (pc := 4) hV dX9_isBits_4 rfl rfl ?_
    refine zr_aload_n (pc := 5) hV dX9_isBits_5 rfl rfl ?_
    refine zr_callVp (pc := 6) hV [] (st := [ZI bits]) (c_X9_bitsInAll_2 (σ := σ) hσ) dX9_isBits_6 mX9_48 (zc_k3 zc_s3) (zc_pos zc_s3 rfl) (by decide) (Nat.le_of_ble_eq_true rfl) (Nat.le_refl _) (fun r6 hr6 pr6 => ?_)
    have t2 := zc_g3_2 hσ zc_s3
    refine zr_icmp_ge (pc := 9) hV 16 dX9_isBits_9 (by decide) (by omega) (by omega) (fun c3 => ?_) (fun c3 => ?_)
    · show V 16 [some (ZR 3), some (ZI bits)] [] 284 σ
      refine zr_iconst (pc := 16) hV 0 dX9_isBits_16 rfl ?_
      show V 17 [some (ZR 3), some (ZI bits)] [ZI 0] 284 σ
      exact zr_zret (pc := 17) hV dX9_isBits_17 rfl rfl (by omega) ⟨rfl, _, rfl, ⟨by decide, by decide⟩, (by omega)⟩
    · show V 12 [some (ZR 3), some (ZI bits)] [] 284 σ
      refine zr_iconst (pc := 12) hV 1 dX9_isBits_12 rfl ?_
      refine zr_goto (pc := 13) hV 17 dX9_isBits_13 (by decide) ?_
      show V 17 [some (ZR 3), some (ZI bits)] [ZI 1] 284 σ
      exact zr_zret (pc := 17) hV dX9_isBits_17 rfl rfl (by omega) ⟨rfl, _, rfl, ⟨by decide, by decide⟩, (by omega)⟩
set_option maxHeartbeats 800000 in
theorem c_X3_fieldOf_2 {σ : zq_S} (hσ : zc_T σ) (this : Int) (kthis : zc_kd this = 4) (bits : Int) (f : Int) (q0 : zq_in bits) (q1 : 0 ≤ f ∧ f ≤ 3) : zq_C zc_w yX3_fieldOf cX3_fieldOf 6 (some .int) 0 0 284 284 [ZR this, ZI bits, ZI f] σ (zq_pp σ (fun r => (0 ≤ r ∧ r ≤ 4095) ∧ r = zu_fo (zu_cM (σ (this + 1) f)) (zu_cM bits) 12)) := by
  refine zq_C_of (by decide) (Nat.le_refl _) (Nat.le_of_ble_eq_true rfl) [some (ZR this), some (ZI bits), some (ZI f), none, none, none] rfl (fun V hV => ?_)
  have pothis := zc_pos kthis rfl
  show V 0 [some (ZR this), some (ZI bits), some (ZI f), none, none, none] [] 284 σ
  refine zr_aload_n (pc := 0) hV dX3_fieldOf_0 rfl rfl ?_
  refine zr_getR (pc := 1) hV 3 (this + 1) dX3_fieldOf_1 fX3_9 rfl rfl (zc_k4 kthis) (zc_pos kthis rfl) (zc_g4_3 hσ kthis) (zc_pos (zc_p4_1 kthis) rfl).1 ?_
  refine zr_iload_n (pc := 4) hV dX3_fieldOf_4 rfl rfl ?_
  refine zr_iald (pc := 5) hV dX3_fieldOf_5 (zc_k5 (zc_p4_1 kthis)) (zc_pos (zc_p4_1 kthis) rfl) rfl (by omega) ?_
  have t1 := zc_ga5 hσ (zc_p4_1 kthis) f
  refine zr_istore_n (pc := 6) hV [some (ZR this), some (ZI bits), some (ZI f), some (ZI (σ (this + 1) f)), none, none] dX3_fieldOf_6 rfl (by decide) rfl rfl ?_
  refine zr_iload_n (pc := 7) hV dX3_fieldOf_7 rfl rfl ?_
  refine zr_if_ne (pc := 8) hV 13 dX3_fieldOf_8 (by decide) (by omega) (fun c2 => ?_) (fun c2 => ?_)
  · show V 13 [some (ZR this), some (ZI bits), some (ZI f), some (ZI (σ (this + 1) f)), none, none] [] 284 σ
    refine zr_iconst (pc := 13) hV 0 dX3_fieldOf_13 rfl ?_
    refine zr_istore (pc := 14) hV [some (ZR this), some (ZI bits), some (ZI f), some (ZI (σ (this + 1) f)), some (ZI 0), none] dX3_fieldOf_14 (by decide) rfl rfl ?_
    refine zr_sipush (pc := 16) hV 2048 dX3_fieldOf_16 (by decide) ?_
    refine zr_istore (pc := 19) hV [some (ZR this), some (ZI bits), some (ZI f), some (ZI (σ (this + 1) f)), some (ZI 0), some (ZI 2048)] dX3_fieldOf_19 (by decide) rfl rfl ?_
    have L21 : ∀ (fuel : Nat) (x4_21 : Int) (x5_21 : Int) (k21 : Int), (0 ≤ x4_21 ∧ x4_21 ≤ 4095) → (0 ≤ x5_21 ∧ x5_21 ≤ 2048) → (0 ≤ k21 ∧ k21 ≤ 12) → ((k21 < 12 → x5_21 = zx_p2 (11 - k21)) ∧ (k21 = 12 → x5_21 = 0)) → (x4_21 = zu_fo (zu_cM (σ (this + 1) f)) (zu_cM bits) k21) → x5_21 < (fuel : Int) → V 21 [none, some (ZI bits), none, some (ZI (σ (this + 1) f)), some (ZI x4_21), some (ZI x5_21)] [] 284 σ := by
      intro fuel
      induction fuel with
      | zero =>
        intro x4_21 x5_21 k21 hx4_21 hx5_21 hi21_0 hi21_1 hi21_2 hm21
        exfalso; omega
      | succ fuel ih =>
        intro x4_21 x5_21 k21 hx4_21 hx5_21 hi21_0 hi21_1 hi21_2 hm21
        have ih21 := ih
        show V 21 [none, some (ZI bits), none, some (ZI (σ (this + 1) f)), some (ZI x4_21), some (ZI x5_21)] [] 284 σ
        refine zr_iload (pc := 21) hV dX3_fieldOf_21 rfl ?_
        refine zr_if_le (pc := 23) hV 61 dX3_fieldOf_23 (by decide) (by omega) (fun c3 => ?_) (fun c3 => ?_)
        · show V 61 [none, some (ZI bits), none, some (ZI (σ (this + 1) f)), some (ZI x4_21), some (ZI x5_21)] [] 284 σ
          have zpp := zx_p2_pos (11 - k21)
          refine zr_iload (pc := 61) hV dX3_fieldOf_61 rfl ?_
          exact zr_iret (pc := 63) hV dX3_fieldOf_63 rfl rfl ⟨rfl, _, rfl, (by omega), ⟨by omega, (by rw [show (12 : Int) = k21 by omega]; exact hi21_2)⟩⟩
        · show V 26 [none, some (ZI bits), none, some (ZI (σ (this + 1) f)), some (ZI x4_21), some (ZI x5_21)] [] 284 σ
          have zx5 : x5_21 = zx_p2 (11 - k21) := hi21_1.1 (by omega)
          have zp : k21 + 1 < 12 → zx_p2 (11 - k21) = 2 * zx_p2 (11 - (k21 + 1)) := fun h => by rw [show 11 - k21 = 11 - (k21 + 1) + 1 by omega]; exact zx_p2_s _ (by omega)
          have zp0 : k21 + 1 = 12 → zx_p2 (11 - k21) = 1 := fun h => by rw [show 11 - k21 = 0 by omega]; exact zx_p2_0
          have zfb := zu_fo_b (zu_cM (σ (this + 1) f)) (zu_cM bits) k21
          have zps := zx_p2_s k21 (by omega)
          have zle := zx_p2_le (m := k21 + 1) (n := 12) (by omega)
          have z12 := zx_p2_12
          refine zr_iload_n (pc := 26) hV dX3_fieldOf_26 rfl rfl ?_
          refine zr_iload (pc := 27) hV dX3_fieldOf_27 rfl ?_
          refine zr_iand (pc := 29) hV dX3_fieldOf_29 ?_
          have t4 := zq_and_nnR (x := σ (this + 1) f) (y := x5_21) (by omega)
          refine zr_if_eq (pc := 30) hV 52 dX3_fieldOf_30 (by decide) (by omega) (fun c5 => ?_) (fun c5 => ?_)
          · show V 52 [none, some (ZI bits), none, some (ZI (σ (this + 1) f)), some (ZI x4_21), some (ZI x5_21)] [] 284 σ
            refine zr_iload (pc := 52) hV dX3_fieldOf_52 rfl ?_
            refine zr_iconst (pc := 54) hV 1 dX3_fieldOf_54 rfl ?_
            refine zr_ishr (pc := 55) hV dX3_fieldOf_55 ?_
            have t6 : zq_shr x5_21 1 = x5_21 / 2 := zq_shr_c (x := x5_21) 1 2 (by decide) (by decide) (by omega)
            refine zr_istore (pc := 56) hV [none, some (ZI bits), none, some (ZI (σ (this + 1) f)), some (ZI x4_21), some (ZI (zq_shr x5_21 1))] dX3_fieldOf_56 (by decide) rfl rfl ?_
            refine zr_goto (pc := 58) hV 21 dX3_fieldOf_58 (by decide) ?_
            exact ih21 x4_21 (zq_shr x5_21 1) (k21 + 1) (by omega) (by omega) (by omega) (by refine ⟨fun h => ?_, fun h => ?_⟩ <;> omega) (by rw [zu_fo_n (by omega) (zu_cM_n (by rw [← zx5]; omega))]; exact hi21_2) (by omega)
          · show V 33 [none, some (ZI bits), none, some (ZI (σ (this + 1) f)), some (ZI x4_21), some (ZI x5_21)] [] 284 σ
            refine zr_iload (pc := 33) hV dX3_fieldOf_33 rfl ?_
            refine zr_iconst (pc := 35) hV 2 dX3_fieldOf_35 rfl ?_
            refine zr_imul (pc := 36) hV dX3_fieldOf_36 ?_
            refine zr_iload_n (pc := 37) hV dX3_fieldOf_37 rfl rfl ?_
            refine zr_iload (pc := 38) hV dX3_fieldOf_38 rfl ?_
            refine zr_iand (pc := 40) hV dX3_fieldOf_40 ?_
            have t7 := zq_and_nnR (x := bits) (y := x5_21) (by omega)
            refine zr_if_ne (pc := 41) hV 48 dX3_fieldOf_41 (by decide) (by omega) (fun c8 => ?_) (fun c8 => ?_)
            · show V 48 [none, some (ZI bits), none, some (ZI (σ (this + 1) f)), some (ZI x4_21), some (ZI x5_21)] [ZI (x4_21 * 2)] 284 σ
              refine zr_iconst (pc := 48) hV 1 dX3_fieldOf_48 rfl ?_
              show V 49 [none, some (ZI bits), none, some (ZI (σ (this + 1) f)), some (ZI x4_21), some (ZI x5_21)] [ZI 1, ZI (x4_21 * 2)] 284 σ
              refine zr_iadd (pc := 49) hV dX3_fieldOf_49 ?_
              refine zr_istore (pc := 50) hV [none, some (ZI bits), none, some (ZI (σ (this + 1) f)), some (ZI ((x4_21 * 2) + 1)), some (ZI x5_21)] dX3_fieldOf_50 (by decide) rfl rfl ?_
              show V 52 [none, some (ZI bits), none, some (ZI (σ (this + 1) f)), some (ZI ((x4_21 * 2) + 1)), some (ZI x5_21)] [] 284 σ
              refine zr_iload (pc := 52) hV dX3_fieldOf_52 rfl ?_
              refine zr_iconst (pc := 54) hV 1 dX3_fieldOf_54 rfl ?_
              refine zr_ishr (pc := 55) hV dX3_fieldOf_55 ?_
              have t9 : zq_shr x5_21 1 = x5_21 / 2 := zq_shr_c (x := x5_21) 1 2 (by decide) (by decide) (by omega)
              refine zr_istore (pc := 56) hV [none, some (ZI bits), none, some (ZI (σ (this + 1) f)), some (ZI ((x4_21 * 2) + 1)), some (ZI (zq_shr x5_21 1))] dX3_fieldOf_56 (by decide) rfl rfl ?_
              refine zr_goto (pc := 58) hV 21 dX3_fieldOf_58 (by decide) ?_
              exact ih21 ((x4_21 * 2) + 1) (zq_shr x5_21 1) (k21 + 1) (by omega) (by omega) (by omega) (by refine ⟨fun h => ?_, fun h => ?_⟩ <;> omega) (by rw [zu_fo_1 (by omega) (zu_cM_y (by rw [← zx5]; omega)) (zu_cM_y (by rw [← zx5]; omega)), ← hi21_2]; omega) (by omega)
            · show V 44 [none, some (ZI bits), none, some (ZI (σ (this + 1) f)), some (ZI x4_21), some (ZI x5_21)] [ZI (x4_21 * 2)] 284 σ
              refine zr_iconst (pc := 44) hV 0 dX3_fieldOf_44 rfl ?_
              refine zr_goto (pc := 45) hV 49 dX3_fieldOf_45 (by decide) ?_
              show V 49 [none, some (ZI bits), none, some (ZI (σ (this + 1) f)), some (ZI x4_21), some (ZI x5_21)] [ZI 0, ZI (x4_21 * 2)] 284 σ
              refine zr_iadd (pc := 49) hV dX3_fieldOf_49 ?_
              refine zr_istore (pc := 50) hV [none, some (ZI bits), none, some (ZI (σ (this + 1) f)), some (ZI ((x4_21 * 2) + 0)), some (ZI x5_21)] dX3_fieldOf_50 (by decide) rfl rfl ?_
              show V 52 [none, some (ZI bits), none, some (ZI (σ (this + 1) f)), some (ZI ((x4_21 * 2) + 0)), some (ZI x5_21)] [] 284 σ
              refine zr_iload (pc := 52) hV dX3_fieldOf_52 rfl ?_
              refine zr_iconst (pc := 54) hV 1 dX3_fieldOf_54 rfl ?_
              refine zr_ishr (pc := 55) hV dX3_fieldOf_55 ?_
              have t10 : zq_shr x5_21 1 = x5_21 / 2 := zq_shr_c (x := x5_21) 1 2 (by decide) (by decide) (by omega)
              refine zr_istore (pc := 56) hV [none, some (ZI bits), none, some (ZI (σ (this + 1) f)), some (ZI ((x4_21 * 2) + 0)), some (ZI (zq_shr x5_21 1))] dX3_fieldOf_56 (by decide) rfl rfl ?_
              refine zr_goto (pc := 58) hV 21 dX3_fieldOf_58 (by decide) ?_
              exact ih21 ((x4_21 * 2) + 0) (zq_shr x5_21 1) (k21 + 1) (by omega) (by omega) (by omega) (by refine ⟨fun h => ?_, fun h => ?_⟩ <;> omega) (by rw [zu_fo_0 (by omega) (zu_cM_y (by rw [← zx5]; omega)) (zu_cM_n (by rw [← zx5]; omega)), ← hi21_2]; omega) (by omega)
    refine zr_sub (pc := 21) hV [none, some (ZI bits), none, some (ZI (σ (this + 1) f)), some (ZI 0), some (ZI 2048)] (⟨rfl, rfl, rfl, rfl, trivial⟩) ?_
    exact L21 ((2048 : Int) + 1 : Int).toNat 0 2048 0 (by omega) (by omega) (by omega) ⟨fun _ => rfl, fun h => absurd h (by omega)⟩ (zu_fo_z _ _).symm (by omega)
  · show V 11 [some (ZR this), some (ZI bits), some (ZI f), some (ZI (σ (this + 1) f)), none, none] [] 284 σ
    refine zr_iconst (pc := 11) hV 0 dX3_fieldOf_11 rfl ?_
    exact zr_iret (pc := 12) hV dX3_fieldOf_12 rfl rfl ⟨rfl, _, rfl, ⟨by decide, by decide⟩, ⟨by omega, (by rw [zu_fo_mz (by omega)])⟩⟩
set_option maxHeartbeats 800000 in
theorem c_X9_orderOf_2 {σ : zq_S} (hσ : zc_T σ) (bits : Int) (q0 : 0 ≤ bits ∧ bits ≤ 4095) : zq_C zc_w yX9_orderOf cX9_orderOf 2 (some (.object "OrdersTold$Order")) 1 21 284 284 [ZR 3, ZI bits] σ (zq_pr σ (fun r => (0 ≤ r → zc_kd r = 4) ∧ (zq_hid ((0 ≤ r → (0 ≤ σ 11 bits ∧ σ 11 bits < σ 3 3) ∧ r = σ 10 (σ 11 bits)) ∧ (r < 0 → ¬ (0 ≤ σ 11 bits ∧ σ 11 bits < σ 3 3)))))) := by
  refine zq_C_of (by decide) (Nat.le_refl _) (Nat.le_of_ble_eq_true rfl) [some (ZR 3), some (ZI bits)] rfl (fun V hV => ?_)
  show V 0 [some (ZR 3), some (ZI bits)] [] 284 σ
  refine zr_aload_n (pc := 0) hV dX9_orderOf_0 rfl rfl ?_
  refine zr_aload_n (pc := 1) hV dX9_orderOf_1 rfl rfl ?_
  refine zr_iload_n (pc := 2) hV dX9_orderOf_2 rfl rfl ?_
  refine zr_callVp (pc := 3) hV [ZI bits] (st := [ZR 3]) (c_X9_numberOf_2 (σ := σ) hσ bits (by omega)) dX9_orderOf_3 mX9_52 (zc_k3 zc_s3) (zc_pos zc_s3 rfl) (by decide) (Nat.le_of_ble_eq_true rfl) (Nat.le_refl _) (fun r3 hr3 pr3 => ?_)
  have zn : r3 = σ 11 bits := pr3.2.1 ⟨by omega, by omega⟩
  refine zr_callVr (pc := 6) hV [ZI r3] (st := []) (c_X9_numbered_2 (σ := σ) hσ r3 (by omega)) dX9_orderOf_6 mX9_56 (zc_k3 zc_s3) (zc_pos zc_s3 rfl) (by decide) (Nat.le_of_ble_eq_true rfl) (Nat.le_refl _) (fun r6 pr6 => ?_)
  rw [zn] at pr6
  exact zr_aretQ (pc := 9) hV dX9_orderOf_9 rfl rfl ⟨rfl, _, rfl, pr6.1, ⟨fun h => ⟨⟨(pr6.2.1 h).1, (pr6.2.1 h).2.1⟩, (pr6.2.1 h).2.2⟩, pr6.2.2⟩⟩
