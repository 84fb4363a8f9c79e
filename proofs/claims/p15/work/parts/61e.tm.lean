set_option maxHeartbeats 800000 in
theorem c_X9_numberOf_2 {σ : zq_S} (hσ : zc_T σ) (bits : Int) (q0 : zq_in bits) : zq_C zc_w yX9_numberOf cX9_numberOf 2 (some .int) 0 0 284 284 [ZR 3, ZI bits] σ (zq_pp σ (fun r => ((-1) ≤ r ∧ r ≤ 19) ∧ (0 ≤ bits ∧ bits < 4096 → r = σ 11 bits) ∧ (¬ (0 ≤ bits ∧ bits < 4096) → r = -1))) := by
  refine zq_C_of (by decide) (Nat.le_refl _) (Nat.le_of_ble_eq_true rfl) [some (ZR 3), some (ZI bits)] rfl (fun V hV => ?_)
  show V 0 [some (ZR 3), some (ZI bits)] [] 284 σ
  refine zr_iload_n (pc := 0) hV dX9_numberOf_0 rfl rfl ?_
  refine zr_if_lt (pc := 1) hV 20 dX9_numberOf_1 (by decide) (by omega) (fun c1 => ?_) (fun c1 => ?_)
  · show V 20 [some (ZR 3), some (ZI bits)] [] 284 σ
    refine zr_iconst (pc := 20) hV (-1) dX9_numberOf_20 rfl ?_
    show V 21 [some (ZR 3), some (ZI bits)] [ZI (-1)] 284 σ
    exact zr_iret (pc := 21) hV dX9_numberOf_21 rfl rfl ⟨rfl, _, rfl, ⟨by decide, by decide⟩, (by omega)⟩
  · show V 4 [some (ZR 3), some (ZI bits)] [] 284 σ
    refine zr_iload_n (pc := 4) hV dX9_numberOf_4 rfl rfl ?_
    refine zr_sipush (pc := 5) hV 4096 dX9_numberOf_5 (by decide) ?_
    refine zr_icmp_ge (pc := 8) hV 20 dX9_numberOf_8 (by decide) (by omega) ⟨by decide, by decide⟩ (fun c2 => ?_) (fun c2 => ?_)
    · show V 20 [some (ZR 3), some (ZI bits)] [] 284 σ
      refine zr_iconst (pc := 20) hV (-1) dX9_numberOf_20 rfl ?_
      show V 21 [some (ZR 3), some (ZI bits)] [ZI (-1)] 284 σ
      exact zr_iret (pc := 21) hV dX9_numberOf_21 rfl rfl ⟨rfl, _, rfl, ⟨by decide, by decide⟩, (by omega)⟩
    · show V 11 [some (ZR 3), some (ZI bits)] [] 284 σ
      refine zr_aload_n (pc := 11) hV dX9_numberOf_11 rfl rfl ?_
      refine zr_getR (pc := 12) hV 7 11 dX9_numberOf_12 fX9_22 rfl rfl (zc_k3 zc_s3) (zc_pos zc_s3 rfl) (zc_g3_7 hσ zc_s3) (by decide) ?_
      refine zr_iload_n (pc := 15) hV dX9_numberOf_15 rfl rfl ?_
      refine zr_iald (pc := 16) hV dX9_numberOf_16 (zc_k11 zc_s11) (zc_pos zc_s11 rfl) rfl (by omega) ?_
      have t3 := zc_ga11 hσ zc_s11 bits
      refine zr_goto (pc := 17) hV 21 dX9_numberOf_17 (by decide) ?_
      show V 21 [some (ZR 3), some (ZI bits)] [ZI (σ 11 bits)] 284 σ
      exact zr_iret (pc := 21) hV dX9_numberOf_21 rfl rfl ⟨rfl, _, rfl, (by omega), (by omega)⟩
set_option maxHeartbeats 800000 in
theorem c_X9_areHoles_2 {σ : zq_S} (hσ : zc_T σ) (from_ : Int) (block : Int) (q0 : 0 ≤ from_ ∧ from_ ≤ 4095) (q1 : 1 ≤ block ∧ block ≤ 4096) (q2 : from_ + block ≤ 4096) : zq_C zc_w yX9_areHoles cX9_areHoles 4 (some .boolean) 1 21 284 284 [ZR 3, ZI from_, ZI block] σ (zq_pp σ (fun r => (0 ≤ r ∧ r ≤ 1) ∧ (r = 1 ↔ zt_free (fun y => σ 11 y = -1) from_ block))) := by
  refine zq_C_of (by decide) (Nat.le_refl _) (Nat.le_of_ble_eq_true rfl) [some (ZR 3), some (ZI from_), some (ZI block), none] rfl (fun V hV => ?_)
  show V 0 [some (ZR 3), some (ZI from_), some (ZI block), none] [] 284 σ
  refine zr_iload_n (pc := 0) hV dX9_areHoles_0 rfl rfl ?_
  refine zr_istore_n (pc := 1) hV [some (ZR 3), some (ZI from_), some (ZI block), some (ZI from_)] dX9_areHoles_1 rfl (by decide) rfl rfl ?_
  have L2 : ∀ (fuel : Nat) (x3_2 : Int), (0 ≤ x3_2 ∧ x3_2 ≤ 8191) → (from_ ≤ x3_2) → (x3_2 ≤ from_ + block) → (zq_hid (∀ y, from_ ≤ y → y < x3_2 → σ 11 y = -1)) → 8191 - x3_2 < (fuel : Int) → V 2 [some (ZR 3), some (ZI from_), some (ZI block), some (ZI x3_2)] [] 284 σ := by
    intro fuel
    induction fuel with
    | zero =>
      intro x3_2 hx3_2 hi2_0 hi2_1 hi2_2 hm2
      exfalso; omega
    | succ fuel ih =>
      intro x3_2 hx3_2 hi2_0 hi2_1 hi2_2 hm2
      have ih2 := ih
      show V 2 [some (ZR 3), some (ZI from_), some (ZI block), some (ZI x3_2)] [] 284 σ
      refine zr_iload_n (pc := 2) hV dX9_areHoles_2 rfl rfl ?_
      refine zr_iload_n (pc := 3) hV dX9_areHoles_3 rfl rfl ?_
      refine zr_iload_n (pc := 4) hV dX9_areHoles_4 rfl rfl ?_
      refine zr_iadd (pc := 5) hV dX9_areHoles_5 ?_
      refine zr_icmp_ge (pc := 6) hV 26 dX9_areHoles_6 (by decide) (by omega) (by omega) (fun c1 => ?_) (fun c1 => ?_)
      · show V 26 [some (ZR 3), some (ZI from_), some (ZI block), some (ZI x3_2)] [] 284 σ
        refine zr_iconst (pc := 26) hV 1 dX9_areHoles_26 rfl ?_
        exact zr_zret (pc := 27) hV dX9_areHoles_27 rfl rfl (by omega) ⟨rfl, _, rfl, ⟨by decide, by decide⟩, ⟨by omega, ⟨fun _ => fun y h0 h1 => hi2_2 y h0 (by omega), fun _ => rfl⟩⟩⟩
      · show V 9 [some (ZR 3), some (ZI from_), some (ZI block), some (ZI x3_2)] [] 284 σ
        refine zr_aload_n (pc := 9) hV dX9_areHoles_9 rfl rfl ?_
        refine zr_iload_n (pc := 10) hV dX9_areHoles_10 rfl rfl ?_
        refine zr_callVp (pc := 11) hV [ZI x3_2] (st := []) (c_X9_numberOf_2 (σ := σ) hσ x3_2 (by omega)) dX9_areHoles_11 mX9_52 (zc_k3 zc_s3) (zc_pos zc_s3 rfl) (by decide) (Nat.le_of_ble_eq_true rfl) (Nat.le_refl _) (fun r11 hr11 pr11 => ?_)
        refine zr_iconst (pc := 14) hV (-1) dX9_areHoles_14 rfl ?_
        refine zr_icmp_eq (pc := 15) hV 20 dX9_areHoles_15 (by decide) (by omega) ⟨by decide, by decide⟩ (fun c2 => ?_) (fun c2 => ?_)
        · show V 20 [some (ZR 3), some (ZI from_), some (ZI block), some (ZI x3_2)] [] 284 σ
          refine zr_iinc (pc := 20) hV [some (ZR 3), some (ZI from_), some (ZI block), some (ZI (x3_2 + 1))] (x3_2 + 1) dX9_areHoles_20 rfl rfl (by decide) rfl rfl ?_
          refine zr_goto (pc := 23) hV 2 dX9_areHoles_23 (by decide) ?_
          exact ih2 (x3_2 + 1) (by omega) (by omega) (by omega) (fun y h0 h1 => if hc : y = x3_2 then (by rw [hc]; omega) else hi2_2 y h0 (by omega)) (by omega)
        · show V 18 [some (ZR 3), some (ZI from_), some (ZI block), some (ZI x3_2)] [] 284 σ
          refine zr_iconst (pc := 18) hV 0 dX9_areHoles_18 rfl ?_
          exact zr_zret (pc := 19) hV dX9_areHoles_19 rfl rfl (by omega) ⟨rfl, _, rfl, ⟨by decide, by decide⟩, ⟨by omega, ⟨fun h => absurd h (by omega), fun h => absurd (show σ 11 x3_2 = -1 from h x3_2 (by omega) (by omega)) (by omega)⟩⟩⟩
  exact L2 (8191 - from_ + 1 : Int).toNat from_ (by omega) (by omega) (by omega) (fun y h0 h1 => absurd h1 (by omega)) (by omega)
set_option maxHeartbeats 800000 in
theorem c_X9_widthOf_2 {σ : zq_S} (hσ : zc_T σ) (a : Int) (ka : zc_kd a = 4) (b : Int) (kb : zc_kd b = 4) (f : Int) (q0 : 0 ≤ f ∧ f ≤ 3) : zq_C zc_w yX9_widthOf cX9_widthOf 3 (some .int) 2 41 284 284 [ZR a, ZR b, ZI f] σ (zq_pp σ (fun r => (0 ≤ r ∧ r ≤ 63) ∧ r = zt_mx (zt_bc (σ (a + 1) f)) (zt_bc (σ (b + 1) f)))) := by
  refine zq_C_of (by decide) (Nat.le_refl _) (Nat.le_of_ble_eq_true rfl) [some (ZR a), some (ZR b), some (ZI f)] rfl (fun V hV => ?_)
  have poa := zc_pos ka rfl
  have pob := zc_pos kb rfl
  show V 0 [some (ZR a), some (ZR b), some (ZI f)] [] 284 σ
  refine zr_aload_n (pc := 0) hV dX9_widthOf_0 rfl rfl ?_
  refine zr_iload_n (pc := 1) hV dX9_widthOf_1 rfl rfl ?_
  refine zr_callVp (pc := 2) hV [ZI f] (st := []) (c_X3_fieldBits_2 (σ := σ) hσ a ka f (by omega)) dX9_widthOf_2 mX9_143 (zc_k4 ka) (zc_pos ka rfl) (by decide) (Nat.le_of_ble_eq_true rfl) (Nat.le_refl _) (fun r2 hr2 pr2 => ?_)
  refine zr_aload_n (pc := 5) hV dX9_widthOf_5 rfl rfl ?_
  refine zr_iload_n (pc := 6) hV dX9_widthOf_6 rfl rfl ?_
  refine zr_callVp (pc := 7) hV [ZI f] (st := [ZI r2]) (c_X3_fieldBits_2 (σ := σ) hσ b kb f (by omega)) dX9_widthOf_7 mX9_143 (zc_k4 kb) (zc_pos kb rfl) (by decide) (Nat.le_of_ble_eq_true rfl) (Nat.le_refl _) (fun r7 hr7 pr7 => ?_)
  refine zr_max (pc := 10) hV (st := []) dX9_widthOf_10 lX9_146 (by omega) (by omega) (Nat.le_of_ble_eq_true rfl) rfl rfl (fun r10 pr10 qr10 => ?_)
  exact zr_iret (pc := 13) hV dX9_widthOf_13 rfl rfl ⟨rfl, _, rfl, (by omega), ⟨by omega, (zt_mx_u (by omega) (by omega) (by omega))⟩⟩
set_option maxHeartbeats 800000 in
theorem c_X9_freeBits_2 {σ : zq_S} (hσ : zc_T σ) (a : Int) (ka : zc_kd a = 4) (b : Int) (kb : zc_kd b = 4)  : zq_C zc_w yX9_freeBits cX9_freeBits 4 (some .int) 3 63 284 284 [ZR a, ZR b] σ (zq_pp σ (fun r => (0 ≤ r ∧ r ≤ 252) ∧ r = (zt_fw (σ (a + 1)) (σ (b + 1)) 4))) := by
  refine zq_C_of (by decide) (Nat.le_refl _) (Nat.le_of_ble_eq_true rfl) [some (ZR a), some (ZR b), none, none] rfl (fun V hV => ?_)
  have poa := zc_pos ka rfl
  have pob := zc_pos kb rfl
  show V 0 [some (ZR a), some (ZR b), none, none] [] 284 σ
  refine zr_iconst (pc := 0) hV 0 dX9_freeBits_0 rfl ?_
  refine zr_istore_n (pc := 1) hV [some (ZR a), some (ZR b), some (ZI 0), none] dX9_freeBits_1 rfl (by decide) rfl rfl ?_
  refine zr_iconst (pc := 2) hV 0 dX9_freeBits_2 rfl ?_
  refine zr_istore_n (pc := 3) hV [some (ZR a), some (ZR b), some (ZI 0), some (ZI 0)] dX9_freeBits_3 rfl (by decide) rfl rfl ?_
  have L4 : ∀ (fuel : Nat) (x2_4 : Int) (x3_4 : Int), (0 ≤ x2_4 ∧ x2_4 ≤ 252) → (0 ≤ x3_4 ∧ x3_4 ≤ 4) → (x2_4 ≤ 63 * x3_4) → (x2_4 = (zt_fw (σ (a + 1)) (σ (b + 1)) x3_4)) → 4 - x3_4 < (fuel : Int) → V 4 [some (ZR a), some (ZR b), some (ZI x2_4), some (ZI x3_4)] [] 284 σ := by
    intro fuel
    induction fuel with
    | zero =>
      intro x2_4 x3_4 hx2_4 hx3_4 hi4_0 hi4_1 hm4
      exfalso; omega
    | succ fuel ih =>
      intro x2_4 x3_4 hx2_4 hx3_4 hi4_0 hi4_1 hm4
      have ih4 := ih
      show V 4 [some (ZR a), some (ZR b), some (ZI x2_4), some (ZI x3_4)] [] 284 σ
      refine zr_iload_n (pc := 4) hV dX9_freeBits_4 rfl rfl ?_
      refine zr_iconst (pc := 5) hV 3 dX9_freeBits_5 rfl ?_
      refine zr_icmp_gt (pc := 6) hV 24 dX9_freeBits_6 (by decide) (by omega) ⟨by decide, by decide⟩ (fun c1 => ?_) (fun c1 => ?_)
      · show V 24 [some (ZR a), some (ZR b), some (ZI x2_4), some (ZI x3_4)] [] 284 σ
        refine zr_iload_n (pc := 24) hV dX9_freeBits_24 rfl rfl ?_
        exact zr_iret (pc := 25) hV dX9_freeBits_25 rfl rfl ⟨rfl, _, rfl, (by omega), ⟨by omega, (by rw [show (4 : Int) = x3_4 by omega]; exact hi4_1)⟩⟩
      · show V 9 [some (ZR a), some (ZR b), some (ZI x2_4), some (ZI x3_4)] [] 284 σ
        refine zr_iload_n (pc := 9) hV dX9_freeBits_9 rfl rfl ?_
        refine zr_aload_n (pc := 10) hV dX9_freeBits_10 rfl rfl ?_
        refine zr_aload_n (pc := 11) hV dX9_freeBits_11 rfl rfl ?_
        refine zr_iload_n (pc := 12) hV dX9_freeBits_12 rfl rfl ?_
        refine zr_callSp (pc := 13) hV [ZR a, ZR b, ZI x3_4] (st := [ZI x2_4]) (c_X9_widthOf_2 (σ := σ) hσ a ka b kb x3_4 (by omega)) dX9_freeBits_13 mX9_149 (by decide) (Nat.le_of_ble_eq_true rfl) (Nat.le_refl _) (fun r13 hr13 pr13 => ?_)
        refine zr_iadd (pc := 16) hV dX9_freeBits_16 ?_
        refine zr_istore_n (pc := 17) hV [some (ZR a), some (ZR b), some (ZI (x2_4 + r13)), some (ZI x3_4)] dX9_freeBits_17 rfl (by decide) rfl rfl ?_
        refine zr_iinc (pc := 18) hV [some (ZR a), some (ZR b), some (ZI (x2_4 + r13)), some (ZI (x3_4 + 1))] (x3_4 + 1) dX9_freeBits_18 rfl rfl (by decide) rfl rfl ?_
        refine zr_goto (pc := 21) hV 4 dX9_freeBits_21 (by decide) ?_
        exact ih4 (x2_4 + r13) (x3_4 + 1) (by omega) (by omega) (by omega) (by rw [zt_fw_s _ _ (by omega)]; omega) (by omega)
  exact L4 (4 - (0 : Int) + 1 : Int).toNat 0 0 (by omega) (by omega) (by omega) (zt_fw_0 _ _).symm (by omega)
set_option maxHeartbeats 800000 in
theorem c_X9_canFollow_2 {σ : zq_S} (hσ : zc_T σ) (a : Int) (ka : zc_kd a = 4) (b : Int) (kb : zc_kd b = 4) (q0 : 0 ≤ σ a 11 ∧ σ a 11 ≤ 1000) (q1 : 0 ≤ σ b 11 ∧ σ b 11 ≤ 1000) : zq_C zc_w yX9_canFollow cX9_canFollow 2 (some .boolean) 2 41 284 284 [ZR a, ZR b] σ (zq_pp σ (fun r => (0 ≤ r ∧ r ≤ 1) ∧ (r = 1 ↔ zt_cf σ a b))) := by
  refine zq_C_of (by decide) (Nat.le_refl _) (Nat.le_of_ble_eq_true rfl) [some (ZR a), some (ZR b)] rfl (fun V hV => ?_)
  have poa := zc_pos ka rfl
  have pob := zc_pos kb rfl
  show V 0 [some (ZR a), some (ZR b)] [] 284 σ
  refine zr_aload_n (pc := 0) hV dX9_canFollow_0 rfl rfl ?_
  refine zr_getI (pc := 1) hV 4 dX9_canFollow_1 fX9_128 rfl rfl (zc_k4 ka) (zc_pos ka rfl) ?_
  have t1 := zc_g4_4 hσ ka
  refine zr_if_ne (pc := 4) hV 39 dX9_canFollow_4 (by decide) (by omega) (fun c2 => ?_) (fun c2 => ?_)
  · show V 39 [some (ZR a), some (ZR b)] [] 284 σ
    refine zr_iconst (pc := 39) hV 0 dX9_canFollow_39 rfl ?_
    exact zr_zret (pc := 40) hV dX9_canFollow_40 rfl rfl (by omega) ⟨rfl, _, rfl, ⟨by decide, by decide⟩, ⟨by omega, (by unfold zt_cf; omega)⟩⟩
  · show V 7 [some (ZR a), some (ZR b)] [] 284 σ
    refine zr_aload_n (pc := 7) hV dX9_canFollow_7 rfl rfl ?_
    refine zr_getI (pc := 8) hV 4 dX9_canFollow_8 fX9_128 rfl rfl (zc_k4 kb) (zc_pos kb rfl) ?_
    have t3 := zc_g4_4 hσ kb
    refine zr_if_ne (pc := 11) hV 39 dX9_canFollow_11 (by decide) (by omega) (fun c4 => ?_) (fun c4 => ?_)
    · show V 39 [some (ZR a), some (ZR b)] [] 284 σ
      refine zr_iconst (pc := 39) hV 0 dX9_canFollow_39 rfl ?_
      exact zr_zret (pc := 40) hV dX9_canFollow_40 rfl rfl (by omega) ⟨rfl, _, rfl, ⟨by decide, by decide⟩, ⟨by omega, (by unfold zt_cf; omega)⟩⟩
    · show V 14 [some (ZR a), some (ZR b)] [] 284 σ
      refine zr_aload_n (pc := 14) hV dX9_canFollow_14 rfl rfl ?_
      refine zr_getI (pc := 15) hV 12 dX9_canFollow_15 fX9_131 rfl rfl (zc_k4 ka) (zc_pos ka rfl) ?_
      have t5 := zc_g4_12 hσ ka
      refine zr_aload_n (pc := 18) hV dX9_canFollow_18 rfl rfl ?_
      refine zr_getI (pc := 19) hV 13 dX9_canFollow_19 fX9_134 rfl rfl (zc_k4 ka) (zc_pos ka rfl) ?_
      have t6 := zc_g4_13 hσ ka
      refine zr_ior (pc := 22) hV dX9_canFollow_22 ?_
      have t7 := zq_or_in (σ a 12) (σ a 13)
      refine zr_aload_n (pc := 23) hV dX9_canFollow_23 rfl rfl ?_
      refine zr_getI (pc := 24) hV 12 dX9_canFollow_24 fX9_131 rfl rfl (zc_k4 kb) (zc_pos kb rfl) ?_
      have t8 := zc_g4_12 hσ kb
      refine zr_ior (pc := 27) hV dX9_canFollow_27 ?_
      have t9 := zq_or_in (zq_or (σ a 12) (σ a 13)) (σ b 12)
      refine zr_aload_n (pc := 28) hV dX9_canFollow_28 rfl rfl ?_
      refine zr_getI (pc := 29) hV 13 dX9_canFollow_29 fX9_134 rfl rfl (zc_k4 kb) (zc_pos kb rfl) ?_
      have t10 := zc_g4_13 hσ kb
      refine zr_ior (pc := 32) hV dX9_canFollow_32 ?_
      have t11 := zq_or_in (zq_or (zq_or (σ a 12) (σ a 13)) (σ b 12)) (σ b 13)
      refine zr_bipush (pc := 33) hV 16 dX9_canFollow_33 (by decide) ?_
      refine zr_iand (pc := 35) hV dX9_canFollow_35 ?_
      have t12 := zq_and_nnR (x := zq_or (zq_or (zq_or (σ a 12) (σ a 13)) (σ b 12)) (σ b 13)) (y := 16) (by omega)
      refine zr_if_eq (pc := 36) hV 41 dX9_canFollow_36 (by decide) (by omega) (fun c13 => ?_) (fun c13 => ?_)
      · show V 41 [some (ZR a), some (ZR b)] [] 284 σ
        refine zr_aload_n (pc := 41) hV dX9_canFollow_41 rfl rfl ?_
        refine zr_getI (pc := 42) hV 6 dX9_canFollow_42 fX9_137 rfl rfl (zc_k4 ka) (zc_pos ka rfl) ?_
        have t14 := zc_g4_6 hσ ka
        refine zr_aload_n (pc := 45) hV dX9_canFollow_45 rfl rfl ?_
        refine zr_getI (pc := 46) hV 6 dX9_canFollow_46 fX9_137 rfl rfl (zc_k4 kb) (zc_pos kb rfl) ?_
        have t15 := zc_g4_6 hσ kb
        refine zr_iadd (pc := 49) hV dX9_canFollow_49 ?_
        refine zr_iconst (pc := 50) hV 3 dX9_canFollow_50 rfl ?_
        refine zr_icmp_gt (pc := 51) hV 68 dX9_canFollow_51 (by decide) (by omega) ⟨by decide, by decide⟩ (fun c16 => ?_) (fun c16 => ?_)
        · show V 68 [some (ZR a), some (ZR b)] [] 284 σ
          refine zr_iconst (pc := 68) hV 0 dX9_canFollow_68 rfl ?_
          exact zr_zret (pc := 69) hV dX9_canFollow_69 rfl rfl (by omega) ⟨rfl, _, rfl, ⟨by decide, by decide⟩, ⟨by omega, (by unfold zt_cf; omega)⟩⟩
        · show V 54 [some (ZR a), some (ZR b)] [] 284 σ
          refine zr_aload_n (pc := 54) hV dX9_canFollow_54 rfl rfl ?_
          refine zr_getI (pc := 55) hV 11 dX9_canFollow_55 fX9_140 rfl rfl (zc_k4 ka) (zc_pos ka rfl) ?_
          have t17 := zc_g4_11 hσ ka
          refine zr_aload_n (pc := 58) hV dX9_canFollow_58 rfl rfl ?_
          refine zr_getI (pc := 59) hV 11 dX9_canFollow_59 fX9_140 rfl rfl (zc_k4 kb) (zc_pos kb rfl) ?_
          have t18 := zc_g4_11 hσ kb
          refine zr_iadd (pc := 62) hV dX9_canFollow_62 ?_
          refine zr_bipush (pc := 63) hV 10 dX9_canFollow_63 (by decide) ?_
          refine zr_icmp_le (pc := 65) hV 70 dX9_canFollow_65 (by decide) (by omega) ⟨by decide, by decide⟩ (fun c19 => ?_) (fun c19 => ?_)
          · show V 70 [some (ZR a), some (ZR b)] [] 284 σ
            refine zr_aload_n (pc := 70) hV dX9_canFollow_70 rfl rfl ?_
            refine zr_iconst (pc := 71) hV 3 dX9_canFollow_71 rfl ?_
            refine zr_callVp (pc := 72) hV [ZI 3] (st := []) (c_X3_hasField_2 (σ := σ) hσ a ka 3 (by omega)) dX9_canFollow_72 mX9_104 (zc_k4 ka) (zc_pos ka rfl) (by decide) (Nat.le_of_ble_eq_true rfl) (Nat.le_refl _) (fun r72 hr72 pr72 => ?_)
            refine zr_if_eq (pc := 75) hV 99 dX9_canFollow_75 (by decide) (by omega) (fun c20 => ?_) (fun c20 => ?_)
            · show V 99 [some (ZR a), some (ZR b)] [] 284 σ
              refine zr_iconst (pc := 99) hV 1 dX9_canFollow_99 rfl ?_
              refine zr_goto (pc := 100) hV 104 dX9_canFollow_100 (by decide) ?_
              show V 104 [some (ZR a), some (ZR b)] [ZI 1] 284 σ
              exact zr_zret (pc := 104) hV dX9_canFollow_104 rfl rfl (by omega) ⟨rfl, _, rfl, ⟨by decide, by decide⟩, ⟨by omega, (by unfold zt_cf; omega)⟩⟩
            · show V 78 [some (ZR a), some (ZR b)] [] 284 σ
              refine zr_aload_n (pc := 78) hV dX9_canFollow_78 rfl rfl ?_
              refine zr_iconst (pc := 79) hV 3 dX9_canFollow_79 rfl ?_
              refine zr_callVp (pc := 80) hV [ZI 3] (st := []) (c_X3_hasField_2 (σ := σ) hσ b kb 3 (by omega)) dX9_canFollow_80 mX9_104 (zc_k4 kb) (zc_pos kb rfl) (by decide) (Nat.le_of_ble_eq_true rfl) (Nat.le_refl _) (fun r80 hr80 pr80 => ?_)
              refine zr_if_eq (pc := 83) hV 99 dX9_canFollow_83 (by decide) (by omega) (fun c21 => ?_) (fun c21 => ?_)
              · show V 99 [some (ZR a), some (ZR b)] [] 284 σ
                refine zr_iconst (pc := 99) hV 1 dX9_canFollow_99 rfl ?_
                refine zr_goto (pc := 100) hV 104 dX9_canFollow_100 (by decide) ?_
                show V 104 [some (ZR a), some (ZR b)] [ZI 1] 284 σ
                exact zr_zret (pc := 104) hV dX9_canFollow_104 rfl rfl (by omega) ⟨rfl, _, rfl, ⟨by decide, by decide⟩, ⟨by omega, (by unfold zt_cf; omega)⟩⟩
              · show V 86 [some (ZR a), some (ZR b)] [] 284 σ
                refine zr_aload_n (pc := 86) hV dX9_canFollow_86 rfl rfl ?_
                refine zr_iconst (pc := 87) hV 3 dX9_canFollow_87 rfl ?_
                refine zr_callVp (pc := 88) hV [ZI 3] (st := []) (c_X3_fieldBits_2 (σ := σ) hσ a ka 3 (by omega)) dX9_canFollow_88 mX9_143 (zc_k4 ka) (zc_pos ka rfl) (by decide) (Nat.le_of_ble_eq_true rfl) (Nat.le_refl _) (fun r88 hr88 pr88 => ?_)
                refine zr_aload_n (pc := 91) hV dX9_canFollow_91 rfl rfl ?_
                refine zr_iconst (pc := 92) hV 3 dX9_canFollow_92 rfl ?_
                refine zr_callVp (pc := 93) hV [ZI 3] (st := [ZI r88]) (c_X3_fieldBits_2 (σ := σ) hσ b kb 3 (by omega)) dX9_canFollow_93 mX9_143 (zc_k4 kb) (zc_pos kb rfl) (by decide) (Nat.le_of_ble_eq_true rfl) (Nat.le_refl _) (fun r93 hr93 pr93 => ?_)
                refine zr_icmp_ne (pc := 96) hV 103 dX9_canFollow_96 (by decide) (by omega) (by omega) (fun c22 => ?_) (fun c22 => ?_)
                · show V 103 [some (ZR a), some (ZR b)] [] 284 σ
                  refine zr_iconst (pc := 103) hV 0 dX9_canFollow_103 rfl ?_
                  show V 104 [some (ZR a), some (ZR b)] [ZI 0] 284 σ
                  exact zr_zret (pc := 104) hV dX9_canFollow_104 rfl rfl (by omega) ⟨rfl, _, rfl, ⟨by decide, by decide⟩, ⟨by omega, (by unfold zt_cf; omega)⟩⟩
                · show V 99 [some (ZR a), some (ZR b)] [] 284 σ
                  refine zr_iconst (pc := 99) hV 1 dX9_canFollow_99 rfl ?_
                  refine zr_goto (pc := 100) hV 104 dX9_canFollow_100 (by decide) ?_
                  show V 104 [some (ZR a), some (ZR b)] [ZI 1] 284 σ
                  exact zr_zret (pc := 104) hV dX9_canFollow_104 rfl rfl (by omega) ⟨rfl, _, rfl, ⟨by decide, by decide⟩, ⟨by omega, (by unfold zt_cf; omega)⟩⟩
          · show V 68 [some (ZR a), some (ZR b)] [] 284 σ
            refine zr_iconst (pc := 68) hV 0 dX9_canFollow_68 rfl ?_
            exact zr_zret (pc := 69) hV dX9_canFollow_69 rfl rfl (by omega) ⟨rfl, _, rfl, ⟨by decide, by decide⟩, ⟨by omega, (by unfold zt_cf; omega)⟩⟩
      · show V 39 [some (ZR a), some (ZR b)] [] 284 σ
        refine zr_iconst (pc := 39) hV 0 dX9_canFollow_39 rfl ?_
        exact zr_zret (pc := 40) hV dX9_canFollow_40 rfl rfl (by omega) ⟨rfl, _, rfl, ⟨by decide, by decide⟩, ⟨by omega, (by unfold zt_cf; omega)⟩⟩
set_option maxHeartbeats 800000 in
theorem c_X9_roomFor_2 {σ : zq_S} (hσ : zc_T σ) (a : Int) (ka : zc_kd a = 4) (b : Int) (kb : zc_kd b = 4) (q0 : 0 ≤ σ a 11 ∧ σ a 11 ≤ 1000) (q1 : 0 ≤ σ b 11 ∧ σ b 11 ≤ 1000) : zq_C zc_w yX9_roomFor cX9_roomFor 6 (some .int) 4 86 284 284 [ZR 3, ZR a, ZR b] σ (zq_pp σ (fun r => ((-2) ≤ r ∧ r ≤ 4095) ∧ zq_hid (zt_room (fun y => σ 11 y = -1) (zt_cf σ a b ∧ (zt_fw (σ (a + 1)) (σ (b + 1)) 4) < σ 3 2) (zx_p2 (zt_fw (σ (a + 1)) (σ (b + 1)) 4)) (zx_p2 (σ 3 2)) r))) := by
  refine zq_C_of (by decide) (Nat.le_refl _) (Nat.le_of_ble_eq_true rfl) [some (ZR 3), some (ZR a), some (ZR b), none, none, none] rfl (fun V hV => ?_)
  have poa := zc_pos ka rfl
  have pob := zc_pos kb rfl
  have z2 := zc_g3_2 hσ zc_s3
  have zle := zx_p2_le (m := σ 3 2) (n := 12) (by omega)
  have z12 := zx_p2_12
  show V 0 [some (ZR 3), some (ZR a), some (ZR b), none, none, none] [] 284 σ
  refine zr_aload_n (pc := 0) hV dX9_roomFor_0 rfl rfl ?_
  refine zr_aload_n (pc := 1) hV dX9_roomFor_1 rfl rfl ?_
  refine zr_callSp (pc := 2) hV [ZR a, ZR b] (st := []) (c_X9_freeBits_2 (σ := σ) hσ a ka b kb) dX9_roomFor_2 mX9_118 (by decide) (Nat.le_of_ble_eq_true rfl) (Nat.le_refl _) (fun r2 hr2 pr2 => ?_)
  refine zr_istore_n (pc := 5) hV [some (ZR 3), some (ZR a), some (ZR b), some (ZI r2), none, none] dX9_roomFor_5 rfl (by decide) rfl rfl ?_
  refine zr_iload_n (pc := 6) hV dX9_roomFor_6 rfl rfl ?_
  refine zr_aload_n (pc := 7) hV dX9_roomFor_7 rfl rfl ?_
  refine zr_getI (pc := 8) hV 2 dX9_roomFor_8 fX9_33 rfl rfl (zc_k3 zc_s3) (zc_pos zc_s3 rfl) ?_
  have t1 := zc_g3_2 hσ zc_s3
  refine zr_icmp_ge (pc := 11) hV 22 dX9_roomFor_11 (by decide) (by omega) (by omega) (fun c2 => ?_) (fun c2 => ?_)
  · show V 22 [some (ZR 3), some (ZR a), some (ZR b), some (ZI r2), none, none] [] 284 σ
    refine zr_bipush (pc := 22) hV (-2) dX9_roomFor_22 (by decide) ?_
    exact zr_iret (pc := 24) hV dX9_roomFor_24 rfl rfl ⟨rfl, _, rfl, ⟨by decide, by decide⟩, ⟨by omega, (zt_room_f (fun q => by first | exact absurd q.2 (by omega) | exact absurd (pr16.2.mpr q.1) (by omega)))⟩⟩
  · show V 14 [some (ZR 3), some (ZR a), some (ZR b), some (ZI r2), none, none] [] 284 σ
    refine zr_aload_n (pc := 14) hV dX9_roomFor_14 rfl rfl ?_
    refine zr_aload_n (pc := 15) hV dX9_roomFor_15 rfl rfl ?_
    have t3 := zc_g4_11 hσ ka
    have t4 := zc_g4_11 hσ kb
    refine zr_callSp (pc := 16) hV [ZR a, ZR b] (st := []) (c_X9_canFollow_2 (σ := σ) hσ a ka b kb (by omega) (by omega)) dX9_roomFor_16 mX9_121 (by decide) (Nat.le_of_ble_eq_true rfl) (Nat.le_refl _) (fun r16 hr16 pr16 => ?_)
    refine zr_if_ne (pc := 19) hV 25 dX9_roomFor_19 (by decide) (by omega) (fun c5 => ?_) (fun c5 => ?_)
    · show V 25 [some (ZR 3), some (ZR a), some (ZR b), some (ZI r2), none, none] [] 284 σ
      refine zr_iconst (pc := 25) hV 1 dX9_roomFor_25 rfl ?_
      refine zr_iload_n (pc := 26) hV dX9_roomFor_26 rfl rfl ?_
      refine zr_ishl (pc := 27) hV dX9_roomFor_27 ?_
      have t6 := zx_shl_one (y := r2) 11 2048 (by decide) (by decide) (by omega)
      have zk : zq_shl 1 r2 = zx_p2 r2 := (zq_shl_one 12 4096 (by decide) (by decide) (by omega)).1
      have zkk : zq_shl 1 r2 = (zx_p2 (zt_fw (σ (a + 1)) (σ (b + 1)) 4)) := by rw [zk]; exact congrArg zx_p2 pr2.2
      have zkp := zx_p2_pos (zt_fw (σ (a + 1)) (σ (b + 1)) 4)
      refine zr_istore (pc := 28) hV [some (ZR 3), some (ZR a), some (ZR b), some (ZI r2), some (ZI (zq_shl 1 r2)), none] dX9_roomFor_28 (by decide) rfl rfl ?_
      refine zr_iconst (pc := 30) hV 0 dX9_roomFor_30 rfl ?_
      refine zr_istore (pc := 31) hV [some (ZR 3), some (ZR a), some (ZR b), some (ZI r2), some (ZI (zq_shl 1 r2)), some (ZI 0)] dX9_roomFor_31 (by decide) rfl rfl ?_
      have L33 : ∀ (fuel : Nat) (x5_33 : Int), (0 ≤ x5_33 ∧ x5_33 ≤ 8191) → (zq_hid (zt_rin (fun y => σ 11 y = -1) (zx_p2 (zt_fw (σ (a + 1)) (σ (b + 1)) 4)) x5_33)) → 8192 - x5_33 < (fuel : Int) → V 33 [some (ZR 3), none, none, none, some (ZI (zq_shl 1 r2)), some (ZI x5_33)] [] 284 σ := by
        intro fuel
        induction fuel with
        | zero =>
          intro x5_33 hx5_33 hi33_0 hm33
          exfalso; omega
        | succ fuel ih =>
          intro x5_33 hx5_33 hi33_0 hm33
          have ih33 := ih
          show V 33 [some (ZR 3), none, none, none, some (ZI (zq_shl 1 r2)), some (ZI x5_33)] [] 284 σ
          refine zr_iload (pc := 33) hV dX9_roomFor_33 rfl ?_
          refine zr_aload_n (pc := 35) hV dX9_roomFor_35 rfl rfl ?_
          refine zr_callVp (pc := 36) hV [] (st := [ZI x5_33]) (c_X9_bitsInAll_2 (σ := σ) hσ) dX9_roomFor_36 mX9_48 (zc_k3 zc_s3) (zc_pos zc_s3 rfl) (by decide) (Nat.le_of_ble_eq_true rfl) (Nat.le_refl _) (fun r36 hr36 pr36 => ?_)
          have t7 := zc_g3_2 hσ zc_s3
          refine zr_icmp_ge (pc := 39) hV 66 dX9_roomFor_39 (by decide) (by omega) (by omega) (fun c8 => ?_) (fun c8 => ?_)
          · show V 66 [some (ZR 3), none, none, none, some (ZI (zq_shl 1 r2)), some (ZI x5_33)] [] 284 σ
            refine zr_bipush (pc := 66) hV (-2) dX9_roomFor_66 (by decide) ?_
            exact zr_iret (pc := 68) hV dX9_roomFor_68 rfl rfl ⟨rfl, _, rfl, ⟨by decide, by decide⟩, ⟨by omega, (zt_room_n hi33_0 (by omega))⟩⟩
          · show V 42 [some (ZR 3), none, none, none, some (ZI (zq_shl 1 r2)), some (ZI x5_33)] [] 284 σ
            have zbl := zx_blk (f := x5_33) (r := (zt_fw (σ (a + 1)) (σ (b + 1)) 4)) (b := σ 3 2) (zt_rin_d hi33_0) (by omega) (by omega) (by omega)
            refine zr_aload_n (pc := 42) hV dX9_roomFor_42 rfl rfl ?_
            refine zr_iload (pc := 43) hV dX9_roomFor_43 rfl ?_
            refine zr_iload (pc := 45) hV dX9_roomFor_45 rfl ?_
            refine zr_callVp (pc := 47) hV [ZI x5_33, ZI (zq_shl 1 r2)] (st := []) (c_X9_areHoles_2 (σ := σ) hσ x5_33 (zq_shl 1 r2) (by omega) (by omega) (by omega)) dX9_roomFor_47 mX9_125 (zc_k3 zc_s3) (zc_pos zc_s3 rfl) (by decide) (Nat.le_of_ble_eq_true rfl) (Nat.le_refl _) (fun r47 hr47 pr47 => ?_)
            rw [zkk] at pr47
            refine zr_if_eq (pc := 50) hV 56 dX9_roomFor_50 (by decide) (by omega) (fun c9 => ?_) (fun c9 => ?_)
            · show V 56 [some (ZR 3), none, none, none, some (ZI (zq_shl 1 r2)), some (ZI x5_33)] [] 284 σ
              refine zr_iload (pc := 56) hV dX9_roomFor_56 rfl ?_
              refine zr_iload (pc := 58) hV dX9_roomFor_58 rfl ?_
              refine zr_iadd (pc := 60) hV dX9_roomFor_60 ?_
              refine zr_istore (pc := 61) hV [some (ZR 3), none, none, none, some (ZI (zq_shl 1 r2)), some (ZI (x5_33 + (zq_shl 1 r2)))] dX9_roomFor_61 (by decide) rfl rfl ?_
              refine zr_goto (pc := 63) hV 33 dX9_roomFor_63 (by decide) ?_
              exact ih33 (x5_33 + (zq_shl 1 r2)) (by omega) (by rw [zkk]; exact zt_rin_s (by have := zx_p2_pos (zt_fw (σ (a + 1)) (σ (b + 1)) 4); omega) hi33_0 (fun c => absurd (pr47.2.mpr c) (by omega))) (by omega)
            · show V 53 [some (ZR 3), none, none, none, some (ZI (zq_shl 1 r2)), some (ZI x5_33)] [] 284 σ
              refine zr_iload (pc := 53) hV dX9_roomFor_53 rfl ?_
              exact zr_iret (pc := 55) hV dX9_roomFor_55 rfl rfl ⟨rfl, _, rfl, (by omega), ⟨by omega, (zt_room_y hi33_0 ⟨pr16.2.mp (by omega), by omega⟩ (by omega) (pr47.2.mp (by omega)) (by omega))⟩⟩
      refine zr_sub (pc := 33) hV [some (ZR 3), none, none, none, some (ZI (zq_shl 1 r2)), some (ZI 0)] (⟨rfl, rfl, rfl, trivial⟩) ?_
      exact L33 (8192 - (0 : Int) + 1 : Int).toNat 0 (by omega) (zt_rin_0 (fun y => σ 11 y = -1) (by have := zx_p2_pos (zt_fw (σ (a + 1)) (σ (b + 1)) 4); omega)) (by omega)
    · show V 22 [some (ZR 3), some (ZR a), some (ZR b), some (ZI r2), none, none] [] 284 σ
      refine zr_bipush (pc := 22) hV (-2) dX9_roomFor_22 (by decide) ?_
      exact zr_iret (pc := 24) hV dX9_roomFor_24 rfl rfl ⟨rfl, _, rfl, ⟨by decide, by decide⟩, ⟨by omega, (zt_room_f (fun q => by first | exact absurd q.2 (by omega) | exact absurd (pr16.2.mpr q.1) (by omega)))⟩⟩
set_option maxHeartbeats 800000 in
theorem c_X3_addActsOf_2 {σ : zq_S} (hσ : zc_T σ) (this : Int) (kthis : zc_kd this = 4) (other : Int) (kother : zc_kd other = 4) (q0 : other ≠ this) (q1 : σ this 6 + σ other 6 ≤ 3) : zq_C zc_w yX3_addActsOf cX3_addActsOf 3 (none) 2 44 284 284 [ZR this, ZR other] σ (zq_pv (fun τ => zc_T τ ∧ zc_Fr [(4, 6), (4, 12), (4, 13), (6, -1), (7, -1), (8, -1), (9, -1)] σ τ ∧ zd_Own this σ τ ∧ (True) ∧ zq_hid (zt_app σ τ this other (σ other 6)))) := by
  refine zq_C_of (by decide) (Nat.le_refl _) (Nat.le_of_ble_eq_true rfl) [some (ZR this), some (ZR other), none] rfl (fun V hV => ?_)
  have pothis := zc_pos kthis rfl
  have poother := zc_pos kother rfl
  have hFσ := zc_Fr_rf [(4, 6), (4, 12), (4, 13), (6, -1), (7, -1), (8, -1), (9, -1)] σ
  have hOσ := zd_Own_rf this σ
  have zo6 := zc_g4_6 hσ kother
  show V 0 [some (ZR this), some (ZR other), none] [] 284 σ
  refine zr_iconst (pc := 0) hV 0 dX3_addActsOf_0 rfl ?_
  refine zr_istore_n (pc := 1) hV [some (ZR this), some (ZR other), some (ZI 0)] dX3_addActsOf_1 rfl (by decide) rfl rfl ?_
  have L2 : ∀ (fuel : Nat) (x2_2 : Int) (σ_2 : zq_S), (0 ≤ x2_2 ∧ x2_2 ≤ 3) → (zc_T σ_2) → (zc_Fr [(4, 6), (4, 12), (4, 13), (6, -1), (7, -1), (8, -1), (9, -1)] σ σ_2) → (zd_Own this σ σ_2) → (x2_2 ≤ σ other 6) → (zq_hid (zt_app σ σ_2 this other x2_2)) → 3 - x2_2 < (fuel : Int) → V 2 [some (ZR this), some (ZR other), some (ZI x2_2)] [] 284 σ_2 := by
    intro fuel
    induction fuel with
    | zero =>
      intro x2_2 σ_2 hx2_2 hσ_2 hFσ_2 hOσ_2 hi2_0 hi2_1 hm2
      exfalso; omega
    | succ fuel ih =>
      intro x2_2 σ_2 hx2_2 hσ_2 hFσ_2 hOσ_2 hi2_0 hi2_1 hm2
      have ih2 := ih
      show V 2 [some (ZR this), some (ZR other), some (ZI x2_2)] [] 284 σ_2
      have f6 : σ_2 other 6 = σ other 6 := hOσ_2 other 6 (by rw [kother]; decide) (by rw [kother]; decide) (by have := zt_own4 (k := 0) kother kthis q0 (by omega) (by omega); omega)
      refine zr_iload_n (pc := 2) hV dX3_addActsOf_2 rfl rfl ?_
      refine zr_aload_n (pc := 3) hV dX3_addActsOf_3 rfl rfl ?_
      refine zr_getI (pc := 4) hV 6 dX3_addActsOf_4 fX3_49 rfl rfl (zc_k4 kother) (zc_pos kother rfl) ?_
      have t1 := zc_g4_6 hσ_2 kother
      refine zr_icmp_ge (pc := 7) hV 44 dX3_addActsOf_7 (by decide) (by omega) (by omega) (fun c2 => ?_) (fun c2 => ?_)
      · show V 44 [some (ZR this), some (ZR other), some (ZI x2_2)] [] 284 σ_2
        exact zr_vret (pc := 44) hV dX3_addActsOf_44 rfl rfl ⟨rfl, hσ_2, hFσ_2, hOσ_2, trivial, (show zt_app σ σ_2 this other (σ other 6) from (by have q := hi2_1; rw [show x2_2 = σ other 6 by omega] at q; exact q))⟩
      · show V 10 [some (ZR this), some (ZR other), some (ZI x2_2)] [] 284 σ_2
        have fu : σ_2 this 6 = σ this 6 + x2_2 := hi2_1.1
        refine zr_aload_n (pc := 10) hV dX3_addActsOf_10 rfl rfl ?_
        refine zr_aload_n (pc := 11) hV dX3_addActsOf_11 rfl rfl ?_
        refine zr_getR (pc := 12) hV 7 (other + 2) dX3_addActsOf_12 fX3_15 rfl rfl (zc_k4 kother) (zc_pos kother rfl) (zc_g4_7 hσ_2 kother) (zc_pos (zc_p4_2 kother) rfl).1 ?_
        refine zr_iload_n (pc := 15) hV dX3_addActsOf_15 rfl rfl ?_
        refine zr_iald (pc := 16) hV dX3_addActsOf_16 (zc_k6 (zc_p4_2 kother)) (zc_pos (zc_p4_2 kother) rfl) rfl (by omega) ?_
        have t3 := zc_ga6 hσ_2 (zc_p4_2 kother) x2_2
        refine zr_aload_n (pc := 17) hV dX3_addActsOf_17 rfl rfl ?_
        refine zr_getR (pc := 18) hV 8 (other + 3) dX3_addActsOf_18 fX3_18 rfl rfl (zc_k4 kother) (zc_pos kother rfl) (zc_g4_8 hσ_2 kother) (zc_pos (zc_p4_3 kother) rfl).1 ?_
        refine zr_iload_n (pc := 21) hV dX3_addActsOf_21 rfl rfl ?_
        refine zr_iald (pc := 22) hV dX3_addActsOf_22 (zc_k7 (zc_p4_3 kother)) (zc_pos (zc_p4_3 kother) rfl) rfl (by omega) ?_
        have t4 := zc_ga7 hσ_2 (zc_p4_3 kother) x2_2
        refine zr_aload_n (pc := 23) hV dX3_addActsOf_23 rfl rfl ?_
        refine zr_getR (pc := 24) hV 9 (other + 4) dX3_addActsOf_24 fX3_21 rfl rfl (zc_k4 kother) (zc_pos kother rfl) (zc_g4_9 hσ_2 kother) (zc_pos (zc_p4_4 kother) rfl).1 ?_
        refine zr_iload_n (pc := 27) hV dX3_addActsOf_27 rfl rfl ?_
        refine zr_iald (pc := 28) hV dX3_addActsOf_28 (zc_k8 (zc_p4_4 kother)) (zc_pos (zc_p4_4 kother) rfl) rfl (by omega) ?_
        have t5 := zc_ga8 hσ_2 (zc_p4_4 kother) x2_2
        refine zr_aload_n (pc := 29) hV dX3_addActsOf_29 rfl rfl ?_
        refine zr_getR (pc := 30) hV 10 (other + 5) dX3_addActsOf_30 fX3_24 rfl rfl (zc_k4 kother) (zc_pos kother rfl) (zc_g4_10 hσ_2 kother) (zc_pos (zc_p4_5 kother) rfl).1 ?_
        refine zr_iload_n (pc := 33) hV dX3_addActsOf_33 rfl rfl ?_
        refine zr_iald (pc := 34) hV dX3_addActsOf_34 (zc_k9 (zc_p4_5 kother)) (zc_pos (zc_p4_5 kother) rfl) rfl (by omega) ?_
        have t6 := zc_ga9 hσ_2 (zc_p4_5 kother) x2_2
        have t7 := zc_g4_6 hσ_2 kthis
        refine zr_callVv (pc := 35) hV [ZI (σ_2 (other + 2) x2_2), ZI (σ_2 (other + 3) x2_2), ZI (σ_2 (other + 4) x2_2), ZI (σ_2 (other + 5) x2_2)] (st := []) (c_X3_addAct_2 (σ := σ_2) hσ_2 this kthis (σ_2 (other + 2) x2_2) (σ_2 (other + 3) x2_2) (σ_2 (other + 4) x2_2) (σ_2 (other + 5) x2_2) (by omega) (by omega) (by omega) (by omega) (zc_ga7 hσ_2 (zc_p4_3 kother) _).2.2 (zc_ga9 hσ_2 (zc_p4_5 kother) _).2.2 (by omega)) dX3_addActsOf_35 mX3_74 (zc_k4 kthis) (zc_pos kthis rfl) (by decide) (Nat.le_of_ble_eq_true rfl) (Nat.le_refl _) (fun σ35 pσ35 => ?_)
        obtain ⟨hσ35, hfσ35, hoσ35, pσ35, wσ35⟩ := pσ35
        have hFσ35 := zc_Fc hfσ35 rfl hFσ_2
        have hOσ35 := zd_Oo hoσ35 hOσ_2
        have t8 := zc_g4_6 hσ_2 kthis
        have t9 := zc_g4_6 hσ35 kthis
        have wx : zt_add σ_2 σ35 this (σ (other + 2) x2_2) (σ (other + 3) x2_2) (σ (other + 4) x2_2) (σ (other + 5) x2_2) := by rw [← hOσ_2 (other + 2) x2_2 (by rw [zc_p4_2 kother]; decide) (by rw [zc_p4_2 kother]; decide) (zt_own4 kother kthis q0 (by omega) (by omega)), ← hOσ_2 (other + 3) x2_2 (by rw [zc_p4_3 kother]; decide) (by rw [zc_p4_3 kother]; decide) (zt_own4 kother kthis q0 (by omega) (by omega)), ← hOσ_2 (other + 4) x2_2 (by rw [zc_p4_4 kother]; decide) (by rw [zc_p4_4 kother]; decide) (zt_own4 kother kthis q0 (by omega) (by omega)), ← hOσ_2 (other + 5) x2_2 (by rw [zc_p4_5 kother]; decide) (by rw [zc_p4_5 kother]; decide) (zt_own4 kother kthis q0 (by omega) (by omega))]; exact wσ35
        refine zr_iinc (pc := 38) hV [some (ZR this), some (ZR other), some (ZI (x2_2 + 1))] (x2_2 + 1) dX3_addActsOf_38 rfl rfl (by decide) rfl rfl ?_
        refine zr_goto (pc := 41) hV 2 dX3_addActsOf_41 (by decide) ?_
        exact ih2 (x2_2 + 1) σ35 (by omega) hσ35 hFσ35 hOσ35 (by omega) (zt_app_s (by omega) hi2_1 wx) (by omega)
  exact L2 (3 - (0 : Int) + 1 : Int).toNat 0 σ (by omega) hσ hFσ hOσ (by omega) (zt_app_0 σ this other) (by omega)
