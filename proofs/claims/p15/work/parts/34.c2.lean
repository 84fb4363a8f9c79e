set_option maxHeartbeats 800000 in
theorem c_X3_hasField {σ : zq_S} (hσ : zc_T σ) (this : Int) (kthis : zc_kd this = 4) (f : Int) (q0 : 0 ≤ f ∧ f ≤ 3) : zq_C zc_w yX3_hasField cX3_hasField 2 (some .boolean) 0 0 284 284 [ZR this, ZI f] σ (zq_pp σ (fun r => (0 ≤ r ∧ r ≤ 1))) := by
  refine zq_C_of (by decide) (Nat.le_refl _) (Nat.le_of_ble_eq_true rfl) [some (ZR this), some (ZI f)] rfl (fun V hV => ?_)
  have pothis := zc_pos kthis rfl
  show V 0 [some (ZR this), some (ZI f)] [] 284 σ
  refine zr_aload_n (pc := 0) hV dX3_hasField_0 rfl rfl ?_
  refine zr_getR (pc := 1) hV 3 (this + 1) dX3_hasField_1 fX3_9 rfl rfl (zc_k4 kthis) (zc_pos kthis rfl) (zc_g4_3 hσ kthis) (zc_pos (zc_p4_1 kthis) rfl).1 ?_
  refine zr_iload_n (pc := 4) hV dX3_hasField_4 rfl rfl ?_
  refine zr_iald (pc := 5) hV dX3_hasField_5 (zc_k5 (zc_p4_1 kthis)) (zc_pos (zc_p4_1 kthis) rfl) rfl (by omega) ?_
  have t1 := zc_ga5 hσ (zc_p4_1 kthis) f
  refine zr_if_eq (pc := 6) hV 13 dX3_hasField_6 (by decide) (by omega) (fun c2 => ?_) (fun c2 => ?_)
  · show V 13 [some (ZR this), some (ZI f)] [] 284 σ
    refine zr_iconst (pc := 13) hV 0 dX3_hasField_13 rfl ?_
    show V 14 [some (ZR this), some (ZI f)] [ZI 0] 284 σ
    exact zr_zret (pc := 14) hV dX3_hasField_14 rfl rfl (by omega) ⟨rfl, _, rfl, ⟨by decide, by decide⟩, (by omega)⟩
  · show V 9 [some (ZR this), some (ZI f)] [] 284 σ
    refine zr_iconst (pc := 9) hV 1 dX3_hasField_9 rfl ?_
    refine zr_goto (pc := 10) hV 14 dX3_hasField_10 (by decide) ?_
    show V 14 [some (ZR this), some (ZI f)] [ZI 1] 284 σ
    exact zr_zret (pc := 14) hV dX3_hasField_14 rfl rfl (by omega) ⟨rfl, _, rfl, ⟨by decide, by decide⟩, (by omega)⟩
set_option maxHeartbeats 800000 in
theorem c_X3_fieldBits {σ : zq_S} (hσ : zc_T σ) (this : Int) (kthis : zc_kd this = 4) (f : Int) (q0 : 0 ≤ f ∧ f ≤ 3) : zq_C zc_w yX3_fieldBits cX3_fieldBits 2 (some .int) 1 20 284 284 [ZR this, ZI f] σ (zq_pp σ (fun r => (0 ≤ r ∧ r ≤ 63))) := by
  refine zq_C_of (by decide) (Nat.le_refl _) (Nat.le_of_ble_eq_true rfl) [some (ZR this), some (ZI f)] rfl (fun V hV => ?_)
  have pothis := zc_pos kthis rfl
  show V 0 [some (ZR this), some (ZI f)] [] 284 σ
  refine zr_aload_n (pc := 0) hV dX3_fieldBits_0 rfl rfl ?_
  refine zr_getR (pc := 1) hV 3 (this + 1) dX3_fieldBits_1 fX3_9 rfl rfl (zc_k4 kthis) (zc_pos kthis rfl) (zc_g4_3 hσ kthis) (zc_pos (zc_p4_1 kthis) rfl).1 ?_
  refine zr_iload_n (pc := 4) hV dX3_fieldBits_4 rfl rfl ?_
  refine zr_iald (pc := 5) hV dX3_fieldBits_5 (zc_k5 (zc_p4_1 kthis)) (zc_pos (zc_p4_1 kthis) rfl) rfl (by omega) ?_
  have t1 := zc_ga5 hσ (zc_p4_1 kthis) f
  refine zr_callSp (pc := 6) hV [ZI (σ (this + 1) f)] (st := []) (c_J6_bitCount_0f7a4 (σ := σ) (σ (this + 1) f) (by omega)) dX3_fieldBits_6 mX3_78 (by decide) (Nat.le_of_ble_eq_true rfl) (Nat.le_refl _) (fun r6 hr6 pr6 => ?_)
  exact zr_iret (pc := 9) hV dX3_fieldBits_9 rfl rfl ⟨rfl, _, rfl, (by omega), (by omega)⟩
set_option maxHeartbeats 800000 in
theorem c_X3_fieldLetters {σ : zq_S} (hσ : zc_T σ) (this : Int) (kthis : zc_kd this = 4)  : zq_C zc_w yX3_fieldLetters cX3_fieldLetters 3 (some .int) 1 21 284 284 [ZR this] σ (zq_pp σ (fun r => True)) := by
  refine zq_C_of (by decide) (Nat.le_refl _) (Nat.le_of_ble_eq_true rfl) [some (ZR this), none, none] rfl (fun V hV => ?_)
  have pothis := zc_pos kthis rfl
  show V 0 [some (ZR this), none, none] [] 284 σ
  refine zr_iconst (pc := 0) hV 0 dX3_fieldLetters_0 rfl ?_
  refine zr_istore_n (pc := 1) hV [some (ZR this), some (ZI 0), none] dX3_fieldLetters_1 rfl (by decide) rfl rfl ?_
  refine zr_iconst (pc := 2) hV 0 dX3_fieldLetters_2 rfl ?_
  refine zr_istore_n (pc := 3) hV [some (ZR this), some (ZI 0), some (ZI 0)] dX3_fieldLetters_3 rfl (by decide) rfl rfl ?_
  have L4 : ∀ (fuel : Nat) (x1_4 : Int) (x2_4 : Int), ((-2147483648) ≤ x1_4 ∧ x1_4 ≤ 2147483647) → (0 ≤ x2_4 ∧ x2_4 ≤ 4) → 4 - x2_4 < (fuel : Int) → V 4 [some (ZR this), some (ZI x1_4), some (ZI x2_4)] [] 284 σ := by
    intro fuel
    induction fuel with
    | zero =>
      intro x1_4 x2_4 hx1_4 hx2_4 hm4
      exfalso; omega
    | succ fuel ih =>
      intro x1_4 x2_4 hx1_4 hx2_4 hm4
      have ih4 := ih
      show V 4 [some (ZR this), some (ZI x1_4), some (ZI x2_4)] [] 284 σ
      refine zr_iload_n (pc := 4) hV dX3_fieldLetters_4 rfl rfl ?_
      refine zr_iconst (pc := 5) hV 3 dX3_fieldLetters_5 rfl ?_
      refine zr_icmp_gt (pc := 6) hV 33 dX3_fieldLetters_6 (by decide) (by omega) ⟨by decide, by decide⟩ (fun c1 => ?_) (fun c1 => ?_)
      · show V 33 [some (ZR this), some (ZI x1_4), some (ZI x2_4)] [] 284 σ
        refine zr_iload_n (pc := 33) hV dX3_fieldLetters_33 rfl rfl ?_
        exact zr_iret (pc := 34) hV dX3_fieldLetters_34 rfl rfl ⟨rfl, _, rfl, (by omega), trivial⟩
      · show V 9 [some (ZR this), some (ZI x1_4), some (ZI x2_4)] [] 284 σ
        refine zr_iload_n (pc := 9) hV dX3_fieldLetters_9 rfl rfl ?_
        refine zr_aload_n (pc := 10) hV dX3_fieldLetters_10 rfl rfl ?_
        refine zr_iload_n (pc := 11) hV dX3_fieldLetters_11 rfl rfl ?_
        refine zr_callVp (pc := 12) hV [ZI x2_4] (st := [ZI x1_4]) (c_X3_hasField (σ := σ) hσ this kthis x2_4 (by omega)) dX3_fieldLetters_12 mX3_83 (zc_k4 kthis) (zc_pos kthis rfl) (by decide) (Nat.le_of_ble_eq_true rfl) (Nat.le_refl _) (fun r12 hr12 pr12 => ?_)
        refine zr_if_eq (pc := 15) hV 24 dX3_fieldLetters_15 (by decide) (by omega) (fun c2 => ?_) (fun c2 => ?_)
        · show V 24 [some (ZR this), some (ZI x1_4), some (ZI x2_4)] [ZI x1_4] 284 σ
          refine zr_iconst (pc := 24) hV 0 dX3_fieldLetters_24 rfl ?_
          show V 25 [some (ZR this), some (ZI x1_4), some (ZI x2_4)] [ZI 0, ZI x1_4] 284 σ
          refine zr_ior (pc := 25) hV dX3_fieldLetters_25 ?_
          have t3 := zq_or_in x1_4 0
          refine zr_istore_n (pc := 26) hV [some (ZR this), some (ZI (zq_or x1_4 0)), some (ZI x2_4)] dX3_fieldLetters_26 rfl (by decide) rfl rfl ?_
          refine zr_iinc (pc := 27) hV [some (ZR this), some (ZI (zq_or x1_4 0)), some (ZI (x2_4 + 1))] (x2_4 + 1) dX3_fieldLetters_27 rfl rfl (by decide) rfl rfl ?_
          refine zr_goto (pc := 30) hV 4 dX3_fieldLetters_30 (by decide) ?_
          exact ih4 (zq_or x1_4 0) (x2_4 + 1) (by omega) (by omega) (by omega)
        · show V 18 [some (ZR this), some (ZI x1_4), some (ZI x2_4)] [ZI x1_4] 284 σ
          refine zr_iconst (pc := 18) hV 1 dX3_fieldLetters_18 rfl ?_
          refine zr_iload_n (pc := 19) hV dX3_fieldLetters_19 rfl rfl ?_
          refine zr_ishl (pc := 20) hV dX3_fieldLetters_20 ?_
          have t4 := zx_shl_one (y := x2_4) 3 8 (by decide) (by decide) (by omega)
          refine zr_goto (pc := 21) hV 25 dX3_fieldLetters_21 (by decide) ?_
          show V 25 [some (ZR this), some (ZI x1_4), some (ZI x2_4)] [ZI (zq_shl 1 x2_4), ZI x1_4] 284 σ
          refine zr_ior (pc := 25) hV dX3_fieldLetters_25 ?_
          have t5 := zq_or_in x1_4 (zq_shl 1 x2_4)
          refine zr_istore_n (pc := 26) hV [some (ZR this), some (ZI (zq_or x1_4 (zq_shl 1 x2_4))), some (ZI x2_4)] dX3_fieldLetters_26 rfl (by decide) rfl rfl ?_
          refine zr_iinc (pc := 27) hV [some (ZR this), some (ZI (zq_or x1_4 (zq_shl 1 x2_4))), some (ZI (x2_4 + 1))] (x2_4 + 1) dX3_fieldLetters_27 rfl rfl (by decide) rfl rfl ?_
          refine zr_goto (pc := 30) hV 4 dX3_fieldLetters_30 (by decide) ?_
          exact ih4 (zq_or x1_4 (zq_shl 1 x2_4)) (x2_4 + 1) (by omega) (by omega) (by omega)
  exact L4 (4 - (0 : Int) + 1 : Int).toNat 0 0 (by omega) (by omega) (by omega)
set_option maxHeartbeats 800000 in
theorem c_X3_fieldOf {σ : zq_S} (hσ : zc_T σ) (this : Int) (kthis : zc_kd this = 4) (bits : Int) (f : Int) (q0 : zq_in bits) (q1 : 0 ≤ f ∧ f ≤ 3) : zq_C zc_w yX3_fieldOf cX3_fieldOf 6 (some .int) 0 0 284 284 [ZR this, ZI bits, ZI f] σ (zq_pp σ (fun r => True)) := by
  refine zq_C_of (by decide) (Nat.le_refl _) (Nat.le_of_ble_eq_true rfl) [some (ZR this), some (ZI bits), some (ZI f), none, none, none] rfl (fun V hV => ?_)
  have pothis := zc_pos kthis rfl
  show V 0 [some (ZR this), some (ZI bits), some (ZI f), none, none, none] [] 284 σ
  refine zr_aload_n (pc := 0) hV dX3_fieldOf_0 rfl rfl ?_
  refine zr_getR (pc := 1) hV 3 (this + 1) dX3_fieldOf_1 fX3_9 rfl rfl (zc_k4 kthis) (zc_pos kthis rfl) (zc_g4_3 hσ kthis) (zc_pos (zc_p4_1 kthis) rfl).1 ?_
  refine zr_iload_n (pc := 4) hV dX3_fieldOf_4 rfl rfl ?_
  refine zr_iald (pc := 5) hV dX3_fieldOf_5 (zc_k5 (zc_p4_1 kthis)) (zc_pos (zc_p4_1 kthis) rfl) rfl (by omega) ?_
  have t1 := zc_ga5 hσ (zc_p4_1 kthis) f
  refine zr_istore_n (pc := 6) hV [some (ZR this), some (ZI bits), some (ZI f), some (ZI (σ (this + 1) f)), none, none] dX3_fieldOf_6 rfl (by decide) rfl rfl ?_
  refine zr_iload_n (pc := 7) hV dX3_fieldOf_7 rfl rfl ?_
  refine zr_if_ne (pc := 8) hV 13 dX3_fieldOf_8 (by decide) (by omega) (fun c2 => ?_) (fun c2 => ?_)
  · show V 13 [some (ZR this), some (ZI bits), some (ZI f), some (ZI (σ (this + 1) f)), none, none] [] 284 σ
    refine zr_iconst (pc := 13) hV 0 dX3_fieldOf_13 rfl ?_
    refine zr_istore (pc := 14) hV [some (ZR this), some (ZI bits), some (ZI f), some (ZI (σ (this + 1) f)), some (ZI 0), none] dX3_fieldOf_14 (by decide) rfl rfl ?_
    refine zr_sipush (pc := 16) hV 2048 dX3_fieldOf_16 (by decide) ?_
    refine zr_istore (pc := 19) hV [some (ZR this), some (ZI bits), some (ZI f), some (ZI (σ (this + 1) f)), some (ZI 0), some (ZI 2048)] dX3_fieldOf_19 (by decide) rfl rfl ?_
    have L21 : ∀ (fuel : Nat) (x4_21 : Int) (x5_21 : Int), ((-2147483648) ≤ x4_21 ∧ x4_21 ≤ 2147483647) → (0 ≤ x5_21 ∧ x5_21 ≤ 2048) → x5_21 < (fuel : Int) → V 21 [none, some (ZI bits), none, some (ZI (σ (this + 1) f)), some (ZI x4_21), some (ZI x5_21)] [] 284 σ := by
      intro fuel
      induction fuel with
      | zero =>
        intro x4_21 x5_21 hx4_21 hx5_21 hm21
        exfalso; omega
      | succ fuel ih =>
        intro x4_21 x5_21 hx4_21 hx5_21 hm21
        have ih21 := ih
        show V 21 [none, some (ZI bits), none, some (ZI (σ (this + 1) f)), some (ZI x4_21), some (ZI x5_21)] [] 284 σ
        refine zr_iload (pc := 21) hV dX3_fieldOf_21 rfl ?_
        refine zr_if_le (pc := 23) hV 61 dX3_fieldOf_23 (by decide) (by omega) (fun c3 => ?_) (fun c3 => ?_)
        · show V 61 [none, some (ZI bits), none, some (ZI (σ (this + 1) f)), some (ZI x4_21), some (ZI x5_21)] [] 284 σ
          refine zr_iload (pc := 61) hV dX3_fieldOf_61 rfl ?_
          exact zr_iret (pc := 63) hV dX3_fieldOf_63 rfl rfl ⟨rfl, _, rfl, (by omega), trivial⟩
        · show V 26 [none, some (ZI bits), none, some (ZI (σ (this + 1) f)), some (ZI x4_21), some (ZI x5_21)] [] 284 σ
          refine zr_iload_n (pc := 26) hV dX3_fieldOf_26 rfl rfl ?_
          refine zr_iload (pc := 27) hV dX3_fieldOf_27 rfl ?_
          refine zr_iand (pc := 29) hV dX3_fieldOf_29 ?_
          have t4 := zq_and_nnR (x := σ (this + 1) f) (y := x5_21) (by omega)
          refine zr_if_eq (pc := 30) hV 52 dX3_fieldOf_30 (by decide) (by omega) (fun c5 => ?_) (fun c5 => ?_)
          · show V 52 [none, some (ZI bits), none, some (ZI (σ (this + 1) f)), some (ZI x4_21), some (ZI x5_21)] [] 284 σ
            refine zr_iload (pc := 52) hV dX3_fieldOf_52 rfl ?_
            refine zr_iconst (pc := 54) hV 1 dX3_fieldOf_54 rfl ?_
            refine zr_ishr (pc := 55) hV dX3_fieldOf_55 ?_
            have t6 : zq_shr x5_21 1 = x5_21 / 2 := zq_shr_c (x := x5_21) 1 2 (by decide) (by decide) (by omega)
            refine zr_istore (pc := 56) hV [none, some (ZI bits), none, some (ZI (σ (this + 1) f)), some (ZI x4_21), some (ZI (zq_shr x5_21 1))] dX3_fieldOf_56 (by decide) rfl rfl ?_
            refine zr_goto (pc := 58) hV 21 dX3_fieldOf_58 (by decide) ?_
            exact ih21 x4_21 (zq_shr x5_21 1) (by omega) (by omega) (by omega)
          · show V 33 [none, some (ZI bits), none, some (ZI (σ (this + 1) f)), some (ZI x4_21), some (ZI x5_21)] [] 284 σ
            refine zr_iload (pc := 33) hV dX3_fieldOf_33 rfl ?_
            refine zr_iconst (pc := 35) hV 2 dX3_fieldOf_35 rfl ?_
            refine zr_imul (pc := 36) hV dX3_fieldOf_36 ?_
            refine zr_any (pc := 37) hV (fun y37 hy37 _ => ?_)
            refine zr_iload_n (pc := 37) hV dX3_fieldOf_37 rfl rfl ?_
            refine zr_iload (pc := 38) hV dX3_fieldOf_38 rfl ?_
            refine zr_iand (pc := 40) hV dX3_fieldOf_40 ?_
            have t7 := zq_and_nnR (x := bits) (y := x5_21) (by omega)
            refine zr_if_ne (pc := 41) hV 48 dX3_fieldOf_41 (by decide) (by omega) (fun c8 => ?_) (fun c8 => ?_)
            · show V 48 [none, some (ZI bits), none, some (ZI (σ (this + 1) f)), some (ZI x4_21), some (ZI x5_21)] [ZI y37] 284 σ
              refine zr_iconst (pc := 48) hV 1 dX3_fieldOf_48 rfl ?_
              show V 49 [none, some (ZI bits), none, some (ZI (σ (this + 1) f)), some (ZI x4_21), some (ZI x5_21)] [ZI 1, ZI y37] 284 σ
              refine zr_iadd (pc := 49) hV dX3_fieldOf_49 ?_
              refine zr_any (pc := 50) hV (fun y50 hy50 _ => ?_)
              refine zr_istore (pc := 50) hV [none, some (ZI bits), none, some (ZI (σ (this + 1) f)), some (ZI y50), some (ZI x5_21)] dX3_fieldOf_50 (by decide) rfl rfl ?_
              show V 52 [none, some (ZI bits), none, some (ZI (σ (this + 1) f)), some (ZI y50), some (ZI x5_21)] [] 284 σ
              refine zr_iload (pc := 52) hV dX3_fieldOf_52 rfl ?_
              refine zr_iconst (pc := 54) hV 1 dX3_fieldOf_54 rfl ?_
              refine zr_ishr (pc := 55) hV dX3_fieldOf_55 ?_
              have t9 : zq_shr x5_21 1 = x5_21 / 2 := zq_shr_c (x := x5_21) 1 2 (by decide) (by decide) (by omega)
              refine zr_istore (pc := 56) hV [none, some (ZI bits), none, some (ZI (σ (this + 1) f)), some (ZI y50), some (ZI (zq_shr x5_21 1))] dX3_fieldOf_56 (by decide) rfl rfl ?_
              refine zr_goto (pc := 58) hV 21 dX3_fieldOf_58 (by decide) ?_
              exact ih21 y50 (zq_shr x5_21 1) (by omega) (by omega) (by omega)
            · show V 44 [none, some (ZI bits), none, some (ZI (σ (this + 1) f)), some (ZI x4_21), some (ZI x5_21)] [ZI y37] 284 σ
              refine zr_iconst (pc := 44) hV 0 dX3_fieldOf_44 rfl ?_
              refine zr_goto (pc := 45) hV 49 dX3_fieldOf_45 (by decide) ?_
              show V 49 [none, some (ZI bits), none, some (ZI (σ (this + 1) f)), some (ZI x4_21), some (ZI x5_21)] [ZI 0, ZI y37] 284 σ
              refine zr_iadd (pc := 49) hV dX3_fieldOf_49 ?_
              refine zr_istore (pc := 50) hV [none, some (ZI bits), none, some (ZI (σ (this + 1) f)), some (ZI (y37 + 0)), some (ZI x5_21)] dX3_fieldOf_50 (by decide) rfl rfl ?_
              show V 52 [none, some (ZI bits), none, some (ZI (σ (this + 1) f)), some (ZI (y37 + 0)), some (ZI x5_21)] [] 284 σ
              refine zr_iload (pc := 52) hV dX3_fieldOf_52 rfl ?_
              refine zr_iconst (pc := 54) hV 1 dX3_fieldOf_54 rfl ?_
              refine zr_ishr (pc := 55) hV dX3_fieldOf_55 ?_
              have t10 : zq_shr x5_21 1 = x5_21 / 2 := zq_shr_c (x := x5_21) 1 2 (by decide) (by decide) (by omega)
              refine zr_istore (pc := 56) hV [none, some (ZI bits), none, some (ZI (σ (this + 1) f)), some (ZI (y37 + 0)), some (ZI (zq_shr x5_21 1))] dX3_fieldOf_56 (by decide) rfl rfl ?_
              refine zr_goto (pc := 58) hV 21 dX3_fieldOf_58 (by decide) ?_
              exact ih21 (y37 + 0) (zq_shr x5_21 1) (by omega) (by omega) (by omega)
    refine zr_sub (pc := 21) hV [none, some (ZI bits), none, some (ZI (σ (this + 1) f)), some (ZI 0), some (ZI 2048)] (⟨rfl, rfl, rfl, rfl, trivial⟩) ?_
    exact L21 ((2048 : Int) + 1 : Int).toNat 0 2048 (by omega) (by omega) (by omega)
  · show V 11 [some (ZR this), some (ZI bits), some (ZI f), some (ZI (σ (this + 1) f)), none, none] [] 284 σ
    refine zr_iconst (pc := 11) hV 0 dX3_fieldOf_11 rfl ?_
    exact zr_iret (pc := 12) hV dX3_fieldOf_12 rfl rfl ⟨rfl, _, rfl, ⟨by decide, by decide⟩, trivial⟩
set_option maxHeartbeats 800000 in
theorem c_X3_withField {σ : zq_S} (hσ : zc_T σ) (this : Int) (kthis : zc_kd this = 4) (bits : Int) (f : Int) (number : Int) (q0 : zq_in bits) (q1 : 0 ≤ f ∧ f ≤ 3) (q2 : zq_in number) : zq_C zc_w yX3_withField cX3_withField 7 (some .int) 0 0 284 284 [ZR this, ZI bits, ZI f, ZI number] σ (zq_pp σ (fun r => True)) := by
  refine zq_C_of (by decide) (Nat.le_refl _) (Nat.le_of_ble_eq_true rfl) [some (ZR this), some (ZI bits), some (ZI f), some (ZI number), none, none, none] rfl (fun V hV => ?_)
  have pothis := zc_pos kthis rfl
  show V 0 [some (ZR this), some (ZI bits), some (ZI f), some (ZI number), none, none, none] [] 284 σ
  refine zr_iload_n (pc := 0) hV dX3_withField_0 rfl rfl ?_
  refine zr_istore (pc := 1) hV [some (ZR this), some (ZI bits), some (ZI f), some (ZI number), some (ZI bits), none, none] dX3_withField_1 (by decide) rfl rfl ?_
  refine zr_iload_n (pc := 3) hV dX3_withField_3 rfl rfl ?_
  refine zr_istore (pc := 4) hV [some (ZR this), some (ZI bits), some (ZI f), some (ZI number), some (ZI bits), some (ZI number), none] dX3_withField_4 (by decide) rfl rfl ?_
  refine zr_iconst (pc := 6) hV 1 dX3_withField_6 rfl ?_
  refine zr_istore (pc := 7) hV [some (ZR this), some (ZI bits), some (ZI f), some (ZI number), some (ZI bits), some (ZI number), some (ZI 1)] dX3_withField_7 (by decide) rfl rfl ?_
  have L9 : ∀ (fuel : Nat) (x4_9 : Int) (x5_9 : Int) (x6_9 : Int), ((-2147483648) ≤ x4_9 ∧ x4_9 ≤ 2147483647) → ((-2147483648) ≤ x5_9 ∧ x5_9 ≤ 2147483647) → (1 ≤ x6_9 ∧ x6_9 ≤ 8192) → 8192 - x6_9 < (fuel : Int) → V 9 [some (ZR this), none, some (ZI f), none, some (ZI x4_9), some (ZI x5_9), some (ZI x6_9)] [] 284 σ := by
    intro fuel
    induction fuel with
    | zero =>
      intro x4_9 x5_9 x6_9 hx4_9 hx5_9 hx6_9 hm9
      exfalso; omega
    | succ fuel ih =>
      intro x4_9 x5_9 x6_9 hx4_9 hx5_9 hx6_9 hm9
      have ih9 := ih
      show V 9 [some (ZR this), none, some (ZI f), none, some (ZI x4_9), some (ZI x5_9), some (ZI x6_9)] [] 284 σ
      refine zr_iload (pc := 9) hV dX3_withField_9 rfl ?_
      refine zr_sipush (pc := 11) hV 4096 dX3_withField_11 (by decide) ?_
      refine zr_icmp_ge (pc := 14) hV 62 dX3_withField_14 (by decide) (by omega) ⟨by decide, by decide⟩ (fun c1 => ?_) (fun c1 => ?_)
      · show V 62 [some (ZR this), none, some (ZI f), none, some (ZI x4_9), some (ZI x5_9), some (ZI x6_9)] [] 284 σ
        refine zr_iload (pc := 62) hV dX3_withField_62 rfl ?_
        exact zr_iret (pc := 64) hV dX3_withField_64 rfl rfl ⟨rfl, _, rfl, (by omega), trivial⟩
      · show V 17 [some (ZR this), none, some (ZI f), none, some (ZI x4_9), some (ZI x5_9), some (ZI x6_9)] [] 284 σ
        refine zr_aload_n (pc := 17) hV dX3_withField_17 rfl rfl ?_
        refine zr_getR (pc := 18) hV 3 (this + 1) dX3_withField_18 fX3_9 rfl rfl (zc_k4 kthis) (zc_pos kthis rfl) (zc_g4_3 hσ kthis) (zc_pos (zc_p4_1 kthis) rfl).1 ?_
        refine zr_iload_n (pc := 21) hV dX3_withField_21 rfl rfl ?_
        refine zr_iald (pc := 22) hV dX3_withField_22 (zc_k5 (zc_p4_1 kthis)) (zc_pos (zc_p4_1 kthis) rfl) rfl (by omega) ?_
        have t2 := zc_ga5 hσ (zc_p4_1 kthis) f
        refine zr_iload (pc := 23) hV dX3_withField_23 rfl ?_
        refine zr_iand (pc := 25) hV dX3_withField_25 ?_
        have t3 := zq_and_nnR (x := σ (this + 1) f) (y := x6_9) (by omega)
        refine zr_if_eq (pc := 26) hV 53 dX3_withField_26 (by decide) (by omega) (fun c4 => ?_) (fun c4 => ?_)
        · show V 53 [some (ZR this), none, some (ZI f), none, some (ZI x4_9), some (ZI x5_9), some (ZI x6_9)] [] 284 σ
          refine zr_iload (pc := 53) hV dX3_withField_53 rfl ?_
          refine zr_iconst (pc := 55) hV 1 dX3_withField_55 rfl ?_
          refine zr_ishl (pc := 56) hV dX3_withField_56 ?_
          have t5 : zq_shl x6_9 1 = x6_9 * 2 := zq_shl_c (x := x6_9) 1 2 (by decide) (by decide) (by omega)
          refine zr_istore (pc := 57) hV [some (ZR this), none, some (ZI f), none, some (ZI x4_9), some (ZI x5_9), some (ZI (zq_shl x6_9 1))] dX3_withField_57 (by decide) rfl rfl ?_
          refine zr_goto (pc := 59) hV 9 dX3_withField_59 (by decide) ?_
          exact ih9 x4_9 x5_9 (zq_shl x6_9 1) (by omega) (by omega) (by omega) (by omega)
        · show V 29 [some (ZR this), none, some (ZI f), none, some (ZI x4_9), some (ZI x5_9), some (ZI x6_9)] [] 284 σ
          refine zr_iload (pc := 29) hV dX3_withField_29 rfl ?_
          refine zr_iload (pc := 31) hV dX3_withField_31 rfl ?_
          refine zr_iconst (pc := 33) hV 1 dX3_withField_33 rfl ?_
          refine zr_iand (pc := 34) hV dX3_withField_34 ?_
          have t6 := zq_and_mask x5_9 1 1 2 (by decide) (by decide) (by decide)
          refine zr_if_ne (pc := 35) hV 42 dX3_withField_35 (by decide) (by omega) (fun c7 => ?_) (fun c7 => ?_)
          · show V 42 [some (ZR this), none, some (ZI f), none, some (ZI x4_9), some (ZI x5_9), some (ZI x6_9)] [ZI x4_9] 284 σ
            refine zr_iload (pc := 42) hV dX3_withField_42 rfl ?_
            show V 44 [some (ZR this), none, some (ZI f), none, some (ZI x4_9), some (ZI x5_9), some (ZI x6_9)] [ZI x6_9, ZI x4_9] 284 σ
            refine zr_ior (pc := 44) hV dX3_withField_44 ?_
            have t8 := zq_or_in x4_9 x6_9
            refine zr_istore (pc := 45) hV [some (ZR this), none, some (ZI f), none, some (ZI (zq_or x4_9 x6_9)), some (ZI x5_9), some (ZI x6_9)] dX3_withField_45 (by decide) rfl rfl ?_
            refine zr_iload (pc := 47) hV dX3_withField_47 rfl ?_
            refine zr_iconst (pc := 49) hV 1 dX3_withField_49 rfl ?_
            refine zr_ishr (pc := 50) hV dX3_withField_50 ?_
            have t9 := zq_shr_in x5_9 1
            refine zr_istore (pc := 51) hV [some (ZR this), none, some (ZI f), none, some (ZI (zq_or x4_9 x6_9)), some (ZI (zq_shr x5_9 1)), some (ZI x6_9)] dX3_withField_51 (by decide) rfl rfl ?_
            show V 53 [some (ZR this), none, some (ZI f), none, some (ZI (zq_or x4_9 x6_9)), some (ZI (zq_shr x5_9 1)), some (ZI x6_9)] [] 284 σ
            refine zr_iload (pc := 53) hV dX3_withField_53 rfl ?_
            refine zr_iconst (pc := 55) hV 1 dX3_withField_55 rfl ?_
            refine zr_ishl (pc := 56) hV dX3_withField_56 ?_
            have t10 : zq_shl x6_9 1 = x6_9 * 2 := zq_shl_c (x := x6_9) 1 2 (by decide) (by decide) (by omega)
            refine zr_istore (pc := 57) hV [some (ZR this), none, some (ZI f), none, some (ZI (zq_or x4_9 x6_9)), some (ZI (zq_shr x5_9 1)), some (ZI (zq_shl x6_9 1))] dX3_withField_57 (by decide) rfl rfl ?_
            refine zr_goto (pc := 59) hV 9 dX3_withField_59 (by decide) ?_
            exact ih9 (zq_or x4_9 x6_9) (zq_shr x5_9 1) (zq_shl x6_9 1) (by omega) (by omega) (by omega) (by omega)
          · show V 38 [some (ZR this), none, some (ZI f), none, some (ZI x4_9), some (ZI x5_9), some (ZI x6_9)] [ZI x4_9] 284 σ
            refine zr_iconst (pc := 38) hV 0 dX3_withField_38 rfl ?_
            refine zr_goto (pc := 39) hV 44 dX3_withField_39 (by decide) ?_
            show V 44 [some (ZR this), none, some (ZI f), none, some (ZI x4_9), some (ZI x5_9), some (ZI x6_9)] [ZI 0, ZI x4_9] 284 σ
            refine zr_ior (pc := 44) hV dX3_withField_44 ?_
            have t11 := zq_or_in x4_9 0
            refine zr_istore (pc := 45) hV [some (ZR this), none, some (ZI f), none, some (ZI (zq_or x4_9 0)), some (ZI x5_9), some (ZI x6_9)] dX3_withField_45 (by decide) rfl rfl ?_
            refine zr_iload (pc := 47) hV dX3_withField_47 rfl ?_
            refine zr_iconst (pc := 49) hV 1 dX3_withField_49 rfl ?_
            refine zr_ishr (pc := 50) hV dX3_withField_50 ?_
            have t12 := zq_shr_in x5_9 1
            refine zr_istore (pc := 51) hV [some (ZR this), none, some (ZI f), none, some (ZI (zq_or x4_9 0)), some (ZI (zq_shr x5_9 1)), some (ZI x6_9)] dX3_withField_51 (by decide) rfl rfl ?_
            show V 53 [some (ZR this), none, some (ZI f), none, some (ZI (zq_or x4_9 0)), some (ZI (zq_shr x5_9 1)), some (ZI x6_9)] [] 284 σ
            refine zr_iload (pc := 53) hV dX3_withField_53 rfl ?_
            refine zr_iconst (pc := 55) hV 1 dX3_withField_55 rfl ?_
            refine zr_ishl (pc := 56) hV dX3_withField_56 ?_
            have t13 : zq_shl x6_9 1 = x6_9 * 2 := zq_shl_c (x := x6_9) 1 2 (by decide) (by decide) (by omega)
            refine zr_istore (pc := 57) hV [some (ZR this), none, some (ZI f), none, some (ZI (zq_or x4_9 0)), some (ZI (zq_shr x5_9 1)), some (ZI (zq_shl x6_9 1))] dX3_withField_57 (by decide) rfl rfl ?_
            refine zr_goto (pc := 59) hV 9 dX3_withField_59 (by decide) ?_
            exact ih9 (zq_or x4_9 0) (zq_shr x5_9 1) (zq_shl x6_9 1) (by omega) (by omega) (by omega) (by omega)
  refine zr_sub (pc := 9) hV [some (ZR this), none, some (ZI f), none, some (ZI bits), some (ZI number), some (ZI 1)] (⟨rfl, rfl, rfl, rfl, rfl, trivial⟩) ?_
  exact L9 (8192 - (1 : Int) + 1 : Int).toNat bits number 1 (by omega) (by omega) (by omega) (by omega)
set_option maxHeartbeats 800000 in
theorem c_X3_tellAbout {σ : zq_S} (hσ : zc_T σ) (this : Int) (kthis : zc_kd this = 4) (what : Int) (q0 : zq_in what) : zq_C zc_w yX3_tellAbout cX3_tellAbout 2 (some .int) 2 43 284 284 [ZR this, ZI what] σ (zq_pp σ (fun r => True)) := by
  refine zq_C_of (by decide) (Nat.le_refl _) (Nat.le_of_ble_eq_true rfl) [some (ZR this), some (ZI what)] rfl (fun V hV => ?_)
  have pothis := zc_pos kthis rfl
  show V 0 [some (ZR this), some (ZI what)] [] 284 σ
  refine zr_iload_n (pc := 0) hV dX3_tellAbout_0 rfl rfl ?_
  by_cases c1 : what = 0
  · refine zr_eqI (V := V) 0 c1 ?_
    refine zr_tableIn (pc := 1) hV 40 dX3_tellAbout_1 ⟨by decide, by decide⟩ (by decide) (by decide) rfl (by decide) ?_
    show V 40 [some (ZR this), some (ZI what)] [] 284 σ
    refine zr_aload_n (pc := 40) hV dX3_tellAbout_40 rfl rfl ?_
    refine zr_getI (pc := 41) hV 11 dX3_tellAbout_41 fX3_52 rfl rfl (zc_k4 kthis) (zc_pos kthis rfl) ?_
    have t2 := zc_g4_11 hσ kthis
    exact zr_iret (pc := 44) hV dX3_tellAbout_44 rfl rfl ⟨rfl, _, rfl, (by omega), trivial⟩
  by_cases c3 : what = 1
  · refine zr_eqI (V := V) 1 c3 ?_
    refine zr_tableIn (pc := 1) hV 45 dX3_tellAbout_1 ⟨by decide, by decide⟩ (by decide) (by decide) rfl (by decide) ?_
    show V 45 [some (ZR this), some (ZI what)] [] 284 σ
    refine zr_aload_n (pc := 45) hV dX3_tellAbout_45 rfl rfl ?_
    refine zr_getI (pc := 46) hV 6 dX3_tellAbout_46 fX3_49 rfl rfl (zc_k4 kthis) (zc_pos kthis rfl) ?_
    have t4 := zc_g4_6 hσ kthis
    exact zr_iret (pc := 49) hV dX3_tellAbout_49 rfl rfl ⟨rfl, _, rfl, (by omega), trivial⟩
  by_cases c5 : what = 2
  · refine zr_eqI (V := V) 2 c5 ?_
    refine zr_tableIn (pc := 1) hV 50 dX3_tellAbout_1 ⟨by decide, by decide⟩ (by decide) (by decide) rfl (by decide) ?_
    show V 50 [some (ZR this), some (ZI what)] [] 284 σ
    refine zr_aload_n (pc := 50) hV dX3_tellAbout_50 rfl rfl ?_
    refine zr_getI (pc := 51) hV 4 dX3_tellAbout_51 fX3_43 rfl rfl (zc_k4 kthis) (zc_pos kthis rfl) ?_
    have t6 := zc_g4_4 hσ kthis
    exact zr_iret (pc := 54) hV dX3_tellAbout_54 rfl rfl ⟨rfl, _, rfl, (by omega), trivial⟩
  by_cases c7 : what = 3
  · refine zr_eqI (V := V) 3 c7 ?_
    refine zr_tableIn (pc := 1) hV 55 dX3_tellAbout_1 ⟨by decide, by decide⟩ (by decide) (by decide) rfl (by decide) ?_
    show V 55 [some (ZR this), some (ZI what)] [] 284 σ
    refine zr_aload_n (pc := 55) hV dX3_tellAbout_55 rfl rfl ?_
    refine zr_callVp (pc := 56) hV [] (st := []) (c_X3_fieldLetters (σ := σ) hσ this kthis) dX3_tellAbout_56 mX3_89 (zc_k4 kthis) (zc_pos kthis rfl) (by decide) (Nat.le_of_ble_eq_true rfl) (Nat.le_refl _) (fun r56 hr56 pr56 => ?_)
    exact zr_iret (pc := 59) hV dX3_tellAbout_59 rfl rfl ⟨rfl, _, rfl, (by omega), trivial⟩
  by_cases c8 : what = 4
  · refine zr_eqI (V := V) 4 c8 ?_
    refine zr_tableIn (pc := 1) hV 60 dX3_tellAbout_1 ⟨by decide, by decide⟩ (by decide) (by decide) rfl (by decide) ?_
    show V 60 [some (ZR this), some (ZI what)] [] 284 σ
    refine zr_aload_n (pc := 60) hV dX3_tellAbout_60 rfl rfl ?_
    refine zr_iconst (pc := 61) hV 3 dX3_tellAbout_61 rfl ?_
    refine zr_callVp (pc := 62) hV [ZI 3] (st := []) (c_X3_fieldBits (σ := σ) hσ this kthis 3 (by omega)) dX3_tellAbout_62 mX3_93 (zc_k4 kthis) (zc_pos kthis rfl) (by decide) (Nat.le_of_ble_eq_true rfl) (Nat.le_refl _) (fun r62 hr62 pr62 => ?_)
    exact zr_iret (pc := 65) hV dX3_tellAbout_65 rfl rfl ⟨rfl, _, rfl, (by omega), trivial⟩
  by_cases c9 : what = 5
  · refine zr_eqI (V := V) 5 c9 ?_
    refine zr_tableIn (pc := 1) hV 66 dX3_tellAbout_1 ⟨by decide, by decide⟩ (by decide) (by decide) rfl (by decide) ?_
    show V 66 [some (ZR this), some (ZI what)] [] 284 σ
    refine zr_aload_n (pc := 66) hV dX3_tellAbout_66 rfl rfl ?_
    refine zr_getI (pc := 67) hV 2 dX3_tellAbout_67 fX3_34 rfl rfl (zc_k4 kthis) (zc_pos kthis rfl) ?_
    have t10 := zc_g4_2 hσ kthis
    exact zr_iret (pc := 70) hV dX3_tellAbout_70 rfl rfl ⟨rfl, _, rfl, (by omega), trivial⟩
  refine zr_tableOut (pc := 1) hV 71 dX3_tellAbout_1 (by omega) (by omega) (by decide) ?_
  show V 71 [some (ZR this), some (ZI what)] [] 284 σ
  refine zr_iconst (pc := 71) hV (-1) dX3_tellAbout_71 rfl ?_
  exact zr_iret (pc := 72) hV dX3_tellAbout_72 rfl rfl ⟨rfl, _, rfl, ⟨by decide, by decide⟩, trivial⟩
set_option maxHeartbeats 800000 in
theorem c_X3_plainForm {σ : zq_S} (hσ : zc_T σ) (this : Int) (kthis : zc_kd this = 4) (letters : Int) (q0 : zq_in letters) : zq_C zc_w yX3_plainForm cX3_plainForm 2 (some .int) 0 0 284 284 [ZR this, ZI letters] σ (zq_pp σ (fun r => True)) := by
  refine zq_C_of (by decide) (Nat.le_refl _) (Nat.le_of_ble_eq_true rfl) [some (ZR this), some (ZI letters)] rfl (fun V hV => ?_)
  have pothis := zc_pos kthis rfl
  show V 0 [some (ZR this), some (ZI letters)] [] 284 σ
  refine zr_aload_n (pc := 0) hV dX3_plainForm_0 rfl rfl ?_
  refine zr_getR (pc := 1) hV 8 (this + 3) dX3_plainForm_1 fX3_18 rfl rfl (zc_k4 kthis) (zc_pos kthis rfl) (zc_g4_8 hσ kthis) (zc_pos (zc_p4_3 kthis) rfl).1 ?_
  refine zr_iconst (pc := 4) hV 0 dX3_plainForm_4 rfl ?_
  refine zr_iald (pc := 5) hV dX3_plainForm_5 (zc_k7 (zc_p4_3 kthis)) (zc_pos (zc_p4_3 kthis) rfl) rfl (by omega) ?_
  have t1 := zc_ga7 hσ (zc_p4_3 kthis) 0
  refine zr_iconst (pc := 6) hV 3 dX3_plainForm_6 rfl ?_
  refine zr_icmp_ne (pc := 7) hV 18 dX3_plainForm_7 (by decide) (by omega) ⟨by decide, by decide⟩ (fun c2 => ?_) (fun c2 => ?_)
  · show V 18 [some (ZR this), some (ZI letters)] [] 284 σ
    refine zr_aload_n (pc := 18) hV dX3_plainForm_18 rfl rfl ?_
    refine zr_getR (pc := 19) hV 8 (this + 3) dX3_plainForm_19 fX3_18 rfl rfl (zc_k4 kthis) (zc_pos kthis rfl) (zc_g4_8 hσ kthis) (zc_pos (zc_p4_3 kthis) rfl).1 ?_
    refine zr_iconst (pc := 22) hV 0 dX3_plainForm_22 rfl ?_
    refine zr_iald (pc := 23) hV dX3_plainForm_23 (zc_k7 (zc_p4_3 kthis)) (zc_pos (zc_p4_3 kthis) rfl) rfl (by omega) ?_
    have t3 := zc_ga7 hσ (zc_p4_3 kthis) 0
    refine zr_iconst (pc := 24) hV 1 dX3_plainForm_24 rfl ?_
    refine zr_icmp_ne (pc := 25) hV 37 dX3_plainForm_25 (by decide) (by omega) ⟨by decide, by decide⟩ (fun c4 => ?_) (fun c4 => ?_)
    · show V 37 [some (ZR this), some (ZI letters)] [] 284 σ
      refine zr_iconst (pc := 37) hV 0 dX3_plainForm_37 rfl ?_
      show V 38 [some (ZR this), some (ZI letters)] [ZI 0] 284 σ
      exact zr_iret (pc := 38) hV dX3_plainForm_38 rfl rfl ⟨rfl, _, rfl, ⟨by decide, by decide⟩, trivial⟩
    · show V 28 [some (ZR this), some (ZI letters)] [] 284 σ
      refine zr_iload_n (pc := 28) hV dX3_plainForm_28 rfl rfl ?_
      refine zr_iconst (pc := 29) hV 3 dX3_plainForm_29 rfl ?_
      refine zr_icmp_ne (pc := 30) hV 37 dX3_plainForm_30 (by decide) (by omega) ⟨by decide, by decide⟩ (fun c5 => ?_) (fun c5 => ?_)
      · show V 37 [some (ZR this), some (ZI letters)] [] 284 σ
        refine zr_iconst (pc := 37) hV 0 dX3_plainForm_37 rfl ?_
        show V 38 [some (ZR this), some (ZI letters)] [ZI 0] 284 σ
        exact zr_iret (pc := 38) hV dX3_plainForm_38 rfl rfl ⟨rfl, _, rfl, ⟨by decide, by decide⟩, trivial⟩
      · show V 33 [some (ZR this), some (ZI letters)] [] 284 σ
        refine zr_iconst (pc := 33) hV 2 dX3_plainForm_33 rfl ?_
        refine zr_goto (pc := 34) hV 38 dX3_plainForm_34 (by decide) ?_
        show V 38 [some (ZR this), some (ZI letters)] [ZI 2] 284 σ
        exact zr_iret (pc := 38) hV dX3_plainForm_38 rfl rfl ⟨rfl, _, rfl, ⟨by decide, by decide⟩, trivial⟩
  · show V 10 [some (ZR this), some (ZI letters)] [] 284 σ
    refine zr_iload_n (pc := 10) hV dX3_plainForm_10 rfl rfl ?_
    refine zr_bipush (pc := 11) hV 9 dX3_plainForm_11 (by decide) ?_
    refine zr_icmp_ne (pc := 13) hV 18 dX3_plainForm_13 (by decide) (by omega) ⟨by decide, by decide⟩ (fun c6 => ?_) (fun c6 => ?_)
    · show V 18 [some (ZR this), some (ZI letters)] [] 284 σ
      refine zr_aload_n (pc := 18) hV dX3_plainForm_18 rfl rfl ?_
      refine zr_getR (pc := 19) hV 8 (this + 3) dX3_plainForm_19 fX3_18 rfl rfl (zc_k4 kthis) (zc_pos kthis rfl) (zc_g4_8 hσ kthis) (zc_pos (zc_p4_3 kthis) rfl).1 ?_
      refine zr_iconst (pc := 22) hV 0 dX3_plainForm_22 rfl ?_
      refine zr_iald (pc := 23) hV dX3_plainForm_23 (zc_k7 (zc_p4_3 kthis)) (zc_pos (zc_p4_3 kthis) rfl) rfl (by omega) ?_
      have t7 := zc_ga7 hσ (zc_p4_3 kthis) 0
      refine zr_iconst (pc := 24) hV 1 dX3_plainForm_24 rfl ?_
      refine zr_icmp_ne (pc := 25) hV 37 dX3_plainForm_25 (by decide) (by omega) ⟨by decide, by decide⟩ (fun c8 => ?_) (fun c8 => ?_)
      · show V 37 [some (ZR this), some (ZI letters)] [] 284 σ
        refine zr_iconst (pc := 37) hV 0 dX3_plainForm_37 rfl ?_
        show V 38 [some (ZR this), some (ZI letters)] [ZI 0] 284 σ
        exact zr_iret (pc := 38) hV dX3_plainForm_38 rfl rfl ⟨rfl, _, rfl, ⟨by decide, by decide⟩, trivial⟩
      · exfalso; omega
    · show V 16 [some (ZR this), some (ZI letters)] [] 284 σ
      refine zr_iconst (pc := 16) hV 1 dX3_plainForm_16 rfl ?_
      exact zr_iret (pc := 17) hV dX3_plainForm_17 rfl rfl ⟨rfl, _, rfl, ⟨by decide, by decide⟩, trivial⟩
set_option maxHeartbeats 800000 in
theorem c_X3_signForm {σ : zq_S} (hσ : zc_T σ) (this : Int) (kthis : zc_kd this = 4) (letters : Int) (q0 : zq_in letters) : zq_C zc_w yX3_signForm cX3_signForm 2 (some .int) 0 0 284 284 [ZR this, ZI letters] σ (zq_pp σ (fun r => True)) := by
  refine zq_C_of (by decide) (Nat.le_refl _) (Nat.le_of_ble_eq_true rfl) [some (ZR this), some (ZI letters)] rfl (fun V hV => ?_)
  have pothis := zc_pos kthis rfl
  show V 0 [some (ZR this), some (ZI letters)] [] 284 σ
  refine zr_aload_n (pc := 0) hV dX3_signForm_0 rfl rfl ?_
  refine zr_getR (pc := 1) hV 8 (this + 3) dX3_signForm_1 fX3_18 rfl rfl (zc_k4 kthis) (zc_pos kthis rfl) (zc_g4_8 hσ kthis) (zc_pos (zc_p4_3 kthis) rfl).1 ?_
  refine zr_iconst (pc := 4) hV 0 dX3_signForm_4 rfl ?_
  refine zr_iald (pc := 5) hV dX3_signForm_5 (zc_k7 (zc_p4_3 kthis)) (zc_pos (zc_p4_3 kthis) rfl) rfl (by omega) ?_
  have t1 := zc_ga7 hσ (zc_p4_3 kthis) 0
  refine zr_iconst (pc := 6) hV 1 dX3_signForm_6 rfl ?_
  have J28 : V 28 [some (ZR this), some (ZI letters)] [] 284 σ := by
    show V 28 [some (ZR this), some (ZI letters)] [] 284 σ
    refine zr_aload_n (pc := 28) hV dX3_signForm_28 rfl rfl ?_
    refine zr_getR (pc := 29) hV 8 (this + 3) dX3_signForm_29 fX3_18 rfl rfl (zc_k4 kthis) (zc_pos kthis rfl) (zc_g4_8 hσ kthis) (zc_pos (zc_p4_3 kthis) rfl).1 ?_
    refine zr_iconst (pc := 32) hV 0 dX3_signForm_32 rfl ?_
    refine zr_iald (pc := 33) hV dX3_signForm_33 (zc_k7 (zc_p4_3 kthis)) (zc_pos (zc_p4_3 kthis) rfl) rfl (by omega) ?_
    have t2 := zc_ga7 hσ (zc_p4_3 kthis) 0
    refine zr_iconst (pc := 34) hV 1 dX3_signForm_34 rfl ?_
    have J56 : V 56 [some (ZR this), some (ZI letters)] [] 284 σ := by
      show V 56 [some (ZR this), some (ZI letters)] [] 284 σ
      refine zr_aload_n (pc := 56) hV dX3_signForm_56 rfl rfl ?_
      refine zr_getR (pc := 57) hV 8 (this + 3) dX3_signForm_57 fX3_18 rfl rfl (zc_k4 kthis) (zc_pos kthis rfl) (zc_g4_8 hσ kthis) (zc_pos (zc_p4_3 kthis) rfl).1 ?_
      refine zr_iconst (pc := 60) hV 0 dX3_signForm_60 rfl ?_
      refine zr_iald (pc := 61) hV dX3_signForm_61 (zc_k7 (zc_p4_3 kthis)) (zc_pos (zc_p4_3 kthis) rfl) rfl (by omega) ?_
      have t3 := zc_ga7 hσ (zc_p4_3 kthis) 0
      have J82 : V 82 [some (ZR this), some (ZI letters)] [] 284 σ := by
        show V 82 [some (ZR this), some (ZI letters)] [] 284 σ
        refine zr_aload_n (pc := 82) hV dX3_signForm_82 rfl rfl ?_
        refine zr_getR (pc := 83) hV 8 (this + 3) dX3_signForm_83 fX3_18 rfl rfl (zc_k4 kthis) (zc_pos kthis rfl) (zc_g4_8 hσ kthis) (zc_pos (zc_p4_3 kthis) rfl).1 ?_
        refine zr_iconst (pc := 86) hV 0 dX3_signForm_86 rfl ?_
        refine zr_iald (pc := 87) hV dX3_signForm_87 (zc_k7 (zc_p4_3 kthis)) (zc_pos (zc_p4_3 kthis) rfl) rfl (by omega) ?_
        have t4 := zc_ga7 hσ (zc_p4_3 kthis) 0
        refine zr_if_ne (pc := 88) hV 112 dX3_signForm_88 (by decide) (by omega) (fun c5 => ?_) (fun c5 => ?_)
        · show V 112 [some (ZR this), some (ZI letters)] [] 284 σ
          refine zr_iconst (pc := 112) hV 0 dX3_signForm_112 rfl ?_
          show V 113 [some (ZR this), some (ZI letters)] [ZI 0] 284 σ
          exact zr_iret (pc := 113) hV dX3_signForm_113 rfl rfl ⟨rfl, _, rfl, ⟨by decide, by decide⟩, trivial⟩
        · show V 91 [some (ZR this), some (ZI letters)] [] 284 σ
          refine zr_aload_n (pc := 91) hV dX3_signForm_91 rfl rfl ?_
          refine zr_getR (pc := 92) hV 10 (this + 5) dX3_signForm_92 fX3_24 rfl rfl (zc_k4 kthis) (zc_pos kthis rfl) (zc_g4_10 hσ kthis) (zc_pos (zc_p4_5 kthis) rfl).1 ?_
          refine zr_iconst (pc := 95) hV 0 dX3_signForm_95 rfl ?_
          refine zr_iald (pc := 96) hV dX3_signForm_96 (zc_k9 (zc_p4_5 kthis)) (zc_pos (zc_p4_5 kthis) rfl) rfl (by omega) ?_
          have t6 := zc_ga9 hσ (zc_p4_5 kthis) 0
          refine zr_iconst (pc := 97) hV 3 dX3_signForm_97 rfl ?_
          refine zr_icmp_ne (pc := 98) hV 112 dX3_signForm_98 (by decide) (by omega) ⟨by decide, by decide⟩ (fun c7 => ?_) (fun c7 => ?_)
          · show V 112 [some (ZR this), some (ZI letters)] [] 284 σ
            refine zr_iconst (pc := 112) hV 0 dX3_signForm_112 rfl ?_
            show V 113 [some (ZR this), some (ZI letters)] [ZI 0] 284 σ
            exact zr_iret (pc := 113) hV dX3_signForm_113 rfl rfl ⟨rfl, _, rfl, ⟨by decide, by decide⟩, trivial⟩
          · show V 101 [some (ZR this), some (ZI letters)] [] 284 σ
            refine zr_iload_n (pc := 101) hV dX3_signForm_101 rfl rfl ?_
            refine zr_bipush (pc := 102) hV 9 dX3_signForm_102 (by decide) ?_
            refine zr_icmp_ne (pc := 104) hV 112 dX3_signForm_104 (by decide) (by omega) ⟨by decide, by decide⟩ (fun c8 => ?_) (fun c8 => ?_)
            · show V 112 [some (ZR this), some (ZI letters)] [] 284 σ
              refine zr_iconst (pc := 112) hV 0 dX3_signForm_112 rfl ?_
              show V 113 [some (ZR this), some (ZI letters)] [ZI 0] 284 σ
              exact zr_iret (pc := 113) hV dX3_signForm_113 rfl rfl ⟨rfl, _, rfl, ⟨by decide, by decide⟩, trivial⟩
            · show V 107 [some (ZR this), some (ZI letters)] [] 284 σ
              refine zr_bipush (pc := 107) hV 6 dX3_signForm_107 (by decide) ?_
              refine zr_goto (pc := 109) hV 113 dX3_signForm_109 (by decide) ?_
              show V 113 [some (ZR this), some (ZI letters)] [ZI 6] 284 σ
              exact zr_iret (pc := 113) hV dX3_signForm_113 rfl rfl ⟨rfl, _, rfl, ⟨by decide, by decide⟩, trivial⟩
      refine zr_if_ne (pc := 62) hV 82 dX3_signForm_62 (by decide) (by omega) (fun c9 => ?_) (fun c9 => ?_)
      · exact J82
      · show V 65 [some (ZR this), some (ZI letters)] [] 284 σ
        refine zr_aload_n (pc := 65) hV dX3_signForm_65 rfl rfl ?_
        refine zr_getR (pc := 66) hV 10 (this + 5) dX3_signForm_66 fX3_24 rfl rfl (zc_k4 kthis) (zc_pos kthis rfl) (zc_g4_10 hσ kthis) (zc_pos (zc_p4_5 kthis) rfl).1 ?_
        refine zr_iconst (pc := 69) hV 0 dX3_signForm_69 rfl ?_
        refine zr_iald (pc := 70) hV dX3_signForm_70 (zc_k9 (zc_p4_5 kthis)) (zc_pos (zc_p4_5 kthis) rfl) rfl (by omega) ?_
        have t10 := zc_ga9 hσ (zc_p4_5 kthis) 0
        refine zr_iconst (pc := 71) hV 1 dX3_signForm_71 rfl ?_
        refine zr_icmp_ne (pc := 72) hV 82 dX3_signForm_72 (by decide) (by omega) ⟨by decide, by decide⟩ (fun c11 => ?_) (fun c11 => ?_)
        · exact J82
        · show V 75 [some (ZR this), some (ZI letters)] [] 284 σ
          refine zr_iload_n (pc := 75) hV dX3_signForm_75 rfl rfl ?_
          refine zr_iconst (pc := 76) hV 3 dX3_signForm_76 rfl ?_
          refine zr_icmp_ne (pc := 77) hV 82 dX3_signForm_77 (by decide) (by omega) ⟨by decide, by decide⟩ (fun c12 => ?_) (fun c12 => ?_)
          · exact J82
          · show V 80 [some (ZR this), some (ZI letters)] [] 284 σ
            refine zr_iconst (pc := 80) hV 5 dX3_signForm_80 rfl ?_
            exact zr_iret (pc := 81) hV dX3_signForm_81 rfl rfl ⟨rfl, _, rfl, ⟨by decide, by decide⟩, trivial⟩
    refine zr_icmp_ne (pc := 35) hV 56 dX3_signForm_35 (by decide) (by omega) ⟨by decide, by decide⟩ (fun c13 => ?_) (fun c13 => ?_)
    · exact J56
    · show V 38 [some (ZR this), some (ZI letters)] [] 284 σ
      refine zr_aload_n (pc := 38) hV dX3_signForm_38 rfl rfl ?_
      refine zr_getR (pc := 39) hV 10 (this + 5) dX3_signForm_39 fX3_24 rfl rfl (zc_k4 kthis) (zc_pos kthis rfl) (zc_g4_10 hσ kthis) (zc_pos (zc_p4_5 kthis) rfl).1 ?_
      refine zr_iconst (pc := 42) hV 0 dX3_signForm_42 rfl ?_
      refine zr_iald (pc := 43) hV dX3_signForm_43 (zc_k9 (zc_p4_5 kthis)) (zc_pos (zc_p4_5 kthis) rfl) rfl (by omega) ?_
      have t14 := zc_ga9 hσ (zc_p4_5 kthis) 0
      refine zr_iconst (pc := 44) hV 3 dX3_signForm_44 rfl ?_
      refine zr_icmp_ne (pc := 45) hV 56 dX3_signForm_45 (by decide) (by omega) ⟨by decide, by decide⟩ (fun c15 => ?_) (fun c15 => ?_)
      · exact J56
      · show V 48 [some (ZR this), some (ZI letters)] [] 284 σ
        refine zr_iload_n (pc := 48) hV dX3_signForm_48 rfl rfl ?_
        refine zr_bipush (pc := 49) hV 11 dX3_signForm_49 (by decide) ?_
        refine zr_icmp_ne (pc := 51) hV 56 dX3_signForm_51 (by decide) (by omega) ⟨by decide, by decide⟩ (fun c16 => ?_) (fun c16 => ?_)
        · exact J56
        · show V 54 [some (ZR this), some (ZI letters)] [] 284 σ
          refine zr_iconst (pc := 54) hV 4 dX3_signForm_54 rfl ?_
          exact zr_iret (pc := 55) hV dX3_signForm_55 rfl rfl ⟨rfl, _, rfl, ⟨by decide, by decide⟩, trivial⟩
  refine zr_icmp_ne (pc := 7) hV 28 dX3_signForm_7 (by decide) (by omega) ⟨by decide, by decide⟩ (fun c17 => ?_) (fun c17 => ?_)
  · exact J28
  · show V 10 [some (ZR this), some (ZI letters)] [] 284 σ
    refine zr_aload_n (pc := 10) hV dX3_signForm_10 rfl rfl ?_
    refine zr_getR (pc := 11) hV 10 (this + 5) dX3_signForm_11 fX3_24 rfl rfl (zc_k4 kthis) (zc_pos kthis rfl) (zc_g4_10 hσ kthis) (zc_pos (zc_p4_5 kthis) rfl).1 ?_
    refine zr_iconst (pc := 14) hV 0 dX3_signForm_14 rfl ?_
    refine zr_iald (pc := 15) hV dX3_signForm_15 (zc_k9 (zc_p4_5 kthis)) (zc_pos (zc_p4_5 kthis) rfl) rfl (by omega) ?_
    have t18 := zc_ga9 hσ (zc_p4_5 kthis) 0
    refine zr_iconst (pc := 16) hV 2 dX3_signForm_16 rfl ?_
    refine zr_icmp_ne (pc := 17) hV 28 dX3_signForm_17 (by decide) (by omega) ⟨by decide, by decide⟩ (fun c19 => ?_) (fun c19 => ?_)
    · exact J28
    · show V 20 [some (ZR this), some (ZI letters)] [] 284 σ
      refine zr_iload_n (pc := 20) hV dX3_signForm_20 rfl rfl ?_
      refine zr_bipush (pc := 21) hV 7 dX3_signForm_21 (by decide) ?_
      refine zr_icmp_ne (pc := 23) hV 28 dX3_signForm_23 (by decide) (by omega) ⟨by decide, by decide⟩ (fun c20 => ?_) (fun c20 => ?_)
      · exact J28
      · show V 26 [some (ZR this), some (ZI letters)] [] 284 σ
        refine zr_iconst (pc := 26) hV 3 dX3_signForm_26 rfl ?_
        exact zr_iret (pc := 27) hV dX3_signForm_27 rfl rfl ⟨rfl, _, rfl, ⟨by decide, by decide⟩, trivial⟩
set_option maxHeartbeats 800000 in
theorem c_X3_combine {σ : zq_S} (sign : Int) (left : Int) (right : Int) (mask : Int) (q0 : zq_in sign) (q1 : zq_in left) (q2 : zq_in right) (q3 : zq_in mask) : zq_C zc_w yX3_combine cX3_combine 4 (some .int) 0 0 284 284 [ZI sign, ZI left, ZI right, ZI mask] σ (zq_pp σ (fun r => True)) := by
  refine zq_C_of (by decide) (Nat.le_refl _) (Nat.le_of_ble_eq_true rfl) [some (ZI sign), some (ZI left), some (ZI right), some (ZI mask)] rfl (fun V hV => ?_)
  show V 0 [some (ZI sign), some (ZI left), some (ZI right), some (ZI mask)] [] 284 σ
  refine zr_iload_n (pc := 0) hV dX3_combine_0 rfl rfl ?_
  by_cases c1 : sign = 38
  · refine zr_eqI (V := V) 38 c1 ?_
    refine zr_lookup (pc := 1) hV 64 dX3_combine_1 ⟨by decide, by decide⟩ (by decide) rfl (by decide) ?_
    show V 64 [some (ZI sign), some (ZI left), some (ZI right), some (ZI mask)] [] 284 σ
    refine zr_iload_n (pc := 64) hV dX3_combine_64 rfl rfl ?_
    refine zr_iload_n (pc := 65) hV dX3_combine_65 rfl rfl ?_
    refine zr_iand (pc := 66) hV dX3_combine_66 ?_
    have t2 := zq_and_in left right
    exact zr_iret (pc := 67) hV dX3_combine_67 rfl rfl ⟨rfl, _, rfl, (by omega), trivial⟩
  by_cases c3 : sign = 43
  · refine zr_eqI (V := V) 43 c3 ?_
    refine zr_lookup (pc := 1) hV 52 dX3_combine_1 ⟨by decide, by decide⟩ (by decide) rfl (by decide) ?_
    show V 52 [some (ZI sign), some (ZI left), some (ZI right), some (ZI mask)] [] 284 σ
    refine zr_iload_n (pc := 52) hV dX3_combine_52 rfl rfl ?_
    refine zr_iload_n (pc := 53) hV dX3_combine_53 rfl rfl ?_
    refine zr_iadd (pc := 54) hV dX3_combine_54 ?_
    refine zr_any (pc := 55) hV (fun y55 hy55 _ => ?_)
    refine zr_iload_n (pc := 55) hV dX3_combine_55 rfl rfl ?_
    refine zr_iand (pc := 56) hV dX3_combine_56 ?_
    have t4 := zq_and_in y55 mask
    exact zr_iret (pc := 57) hV dX3_combine_57 rfl rfl ⟨rfl, _, rfl, (by omega), trivial⟩
  by_cases c5 : sign = 45
  · refine zr_eqI (V := V) 45 c5 ?_
    refine zr_lookup (pc := 1) hV 58 dX3_combine_1 ⟨by decide, by decide⟩ (by decide) rfl (by decide) ?_
    show V 58 [some (ZI sign), some (ZI left), some (ZI right), some (ZI mask)] [] 284 σ
    refine zr_iload_n (pc := 58) hV dX3_combine_58 rfl rfl ?_
    refine zr_iload_n (pc := 59) hV dX3_combine_59 rfl rfl ?_
    refine zr_isub (pc := 60) hV dX3_combine_60 ?_
    refine zr_any (pc := 61) hV (fun y61 hy61 _ => ?_)
    refine zr_iload_n (pc := 61) hV dX3_combine_61 rfl rfl ?_
    refine zr_iand (pc := 62) hV dX3_combine_62 ?_
    have t6 := zq_and_in y61 mask
    exact zr_iret (pc := 63) hV dX3_combine_63 rfl rfl ⟨rfl, _, rfl, (by omega), trivial⟩
  by_cases c7 : sign = 94
  · refine zr_eqI (V := V) 94 c7 ?_
    refine zr_lookup (pc := 1) hV 72 dX3_combine_1 ⟨by decide, by decide⟩ (by decide) rfl (by decide) ?_
    show V 72 [some (ZI sign), some (ZI left), some (ZI right), some (ZI mask)] [] 284 σ
    refine zr_iload_n (pc := 72) hV dX3_combine_72 rfl rfl ?_
    refine zr_iload_n (pc := 73) hV dX3_combine_73 rfl rfl ?_
    refine zr_ixor (pc := 74) hV dX3_combine_74 ?_
    have t8 := zq_xor_in left right
    exact zr_iret (pc := 75) hV dX3_combine_75 rfl rfl ⟨rfl, _, rfl, (by omega), trivial⟩
  by_cases c9 : sign = 124
  · refine zr_eqI (V := V) 124 c9 ?_
    refine zr_lookup (pc := 1) hV 68 dX3_combine_1 ⟨by decide, by decide⟩ (by decide) rfl (by decide) ?_
    show V 68 [some (ZI sign), some (ZI left), some (ZI right), some (ZI mask)] [] 284 σ
    refine zr_iload_n (pc := 68) hV dX3_combine_68 rfl rfl ?_
    refine zr_iload_n (pc := 69) hV dX3_combine_69 rfl rfl ?_
    refine zr_ior (pc := 70) hV dX3_combine_70 ?_
    have t10 := zq_or_in left right
    exact zr_iret (pc := 71) hV dX3_combine_71 rfl rfl ⟨rfl, _, rfl, (by omega), trivial⟩
  refine zr_lookup (pc := 1) (off := 75) hV 76 dX3_combine_1 (by omega) (by decide) (by simp only [Op.lookupswitch.offset]; repeat (split <;> try omega)) (by decide) ?_
  show V 76 [some (ZI sign), some (ZI left), some (ZI right), some (ZI mask)] [] 284 σ
  refine zr_iload_n (pc := 76) hV dX3_combine_76 rfl rfl ?_
  refine zr_iload_n (pc := 77) hV dX3_combine_77 rfl rfl ?_
  refine zr_icmp_ge (pc := 78) hV 85 dX3_combine_78 (by decide) (by omega) (by omega) (fun c11 => ?_) (fun c11 => ?_)
  · show V 85 [some (ZI sign), some (ZI left), some (ZI right), some (ZI mask)] [] 284 σ
    refine zr_iconst (pc := 85) hV 0 dX3_combine_85 rfl ?_
    show V 86 [some (ZI sign), some (ZI left), some (ZI right), some (ZI mask)] [ZI 0] 284 σ
    exact zr_iret (pc := 86) hV dX3_combine_86 rfl rfl ⟨rfl, _, rfl, ⟨by decide, by decide⟩, trivial⟩
  · show V 81 [some (ZI sign), some (ZI left), some (ZI right), some (ZI mask)] [] 284 σ
    refine zr_iconst (pc := 81) hV 1 dX3_combine_81 rfl ?_
    refine zr_goto (pc := 82) hV 86 dX3_combine_82 (by decide) ?_
    show V 86 [some (ZI sign), some (ZI left), some (ZI right), some (ZI mask)] [ZI 1] 284 σ
    exact zr_iret (pc := 86) hV dX3_combine_86 rfl rfl ⟨rfl, _, rfl, ⟨by decide, by decide⟩, trivial⟩
