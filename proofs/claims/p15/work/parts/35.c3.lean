set_option maxHeartbeats 800000 in
theorem c_X9_wordMask {σ : zq_S} (hσ : zc_T σ)   : zq_C zc_w yX9_wordMask cX9_wordMask 1 (some .int) 0 0 284 284 [ZR 3] σ (zq_pp σ (fun r => (0 ≤ r ∧ r ≤ 255))) := by
  refine zq_C_of (by decide) (Nat.le_refl _) (Nat.le_of_ble_eq_true rfl) [some (ZR 3)] rfl (fun V hV => ?_)
  show V 0 [some (ZR 3)] [] 284 σ
  refine zr_iconst (pc := 0) hV 1 dX9_wordMask_0 rfl ?_
  refine zr_aload_n (pc := 1) hV dX9_wordMask_1 rfl rfl ?_
  refine zr_getI (pc := 2) hV 0 dX9_wordMask_2 fX9_26 rfl rfl (zc_k3 zc_s3) (zc_pos zc_s3 rfl) ?_
  have t1 := zc_g3_0 hσ zc_s3
  refine zr_ishl (pc := 5) hV dX9_wordMask_5 ?_
  have t2 := zx_shl_one (y := σ 3 0) 8 256 (by decide) (by decide) (by omega)
  refine zr_iconst (pc := 6) hV 1 dX9_wordMask_6 rfl ?_
  refine zr_isub (pc := 7) hV dX9_wordMask_7 ?_
  exact zr_iret (pc := 8) hV dX9_wordMask_8 rfl rfl ⟨rfl, _, rfl, (by omega), (by omega)⟩
set_option maxHeartbeats 800000 in
theorem c_X9_registers {σ : zq_S} (hσ : zc_T σ)   : zq_C zc_w yX9_registers cX9_registers 1 (some .int) 0 0 284 284 [ZR 3] σ (zq_pp σ (fun r => (1 ≤ r ∧ r ≤ 8))) := by
  refine zq_C_of (by decide) (Nat.le_refl _) (Nat.le_of_ble_eq_true rfl) [some (ZR 3)] rfl (fun V hV => ?_)
  show V 0 [some (ZR 3)] [] 284 σ
  refine zr_iconst (pc := 0) hV 1 dX9_registers_0 rfl ?_
  refine zr_aload_n (pc := 1) hV dX9_registers_1 rfl rfl ?_
  refine zr_getI (pc := 2) hV 1 dX9_registers_2 fX9_30 rfl rfl (zc_k3 zc_s3) (zc_pos zc_s3 rfl) ?_
  have t1 := zc_g3_1 hσ zc_s3
  refine zr_ishl (pc := 5) hV dX9_registers_5 ?_
  have t2 := zx_shl_one (y := σ 3 1) 3 8 (by decide) (by decide) (by omega)
  exact zr_iret (pc := 6) hV dX9_registers_6 rfl rfl ⟨rfl, _, rfl, (by omega), (by omega)⟩
set_option maxHeartbeats 800000 in
theorem c_X9_bitsInAll {σ : zq_S} (hσ : zc_T σ)   : zq_C zc_w yX9_bitsInAll cX9_bitsInAll 1 (some .int) 0 0 284 284 [ZR 3] σ (zq_pp σ (fun r => (1 ≤ r ∧ r ≤ 4096))) := by
  refine zq_C_of (by decide) (Nat.le_refl _) (Nat.le_of_ble_eq_true rfl) [some (ZR 3)] rfl (fun V hV => ?_)
  show V 0 [some (ZR 3)] [] 284 σ
  refine zr_iconst (pc := 0) hV 1 dX9_bitsInAll_0 rfl ?_
  refine zr_aload_n (pc := 1) hV dX9_bitsInAll_1 rfl rfl ?_
  refine zr_getI (pc := 2) hV 2 dX9_bitsInAll_2 fX9_33 rfl rfl (zc_k3 zc_s3) (zc_pos zc_s3 rfl) ?_
  have t1 := zc_g3_2 hσ zc_s3
  refine zr_ishl (pc := 5) hV dX9_bitsInAll_5 ?_
  have t2 := zx_shl_one (y := σ 3 2) 12 4096 (by decide) (by decide) (by omega)
  exact zr_iret (pc := 6) hV dX9_bitsInAll_6 rfl rfl ⟨rfl, _, rfl, (by omega), (by omega)⟩
set_option maxHeartbeats 800000 in
theorem c_X9_isBits {σ : zq_S} (hσ : zc_T σ) (bits : Int) (q0 : zq_in bits) : zq_C zc_w yX9_isBits cX9_isBits 2 (some .boolean) 1 20 284 284 [ZR 3, ZI bits] σ (zq_pp σ (fun r => (0 ≤ r ∧ r ≤ 1) ∧ (r = 1 → 0 ≤ bits ∧ bits ≤ 4095))) := by
  refine zq_C_of (by decide) (Nat.le_refl _) (Nat.le_of_ble_eq_true rfl) [some (ZR 3), some (ZI bits)] rfl (fun V hV => ?_)
  show V 0 [some (ZR 3), some (ZI bits)] [] 284 σ
  refine zr_iload_n (pc := 0) hV dX9_isBits_0 rfl rfl ?_
  refine zr_if_lt (pc := 1) hV 16 dX9_isBits_1 (by decide) (by omega) (fun c1 => ?_) (fun c1 => ?_)
  · show V 16 [some (ZR 3), some (ZI bits)] [] 284 σ
    refine zr_iconst (pc := 16) hV 0 dX9_isBits_16 rfl ?_
    show V 17 [some (ZR 3), some (ZI bits)] [ZI 0] 284 σ
    exact zr_zret (pc := 17) hV dX9_isBits_17 rfl rfl (by omega) ⟨rfl, _, rfl, ⟨by decide, by decide⟩, (by omega)⟩
  · show V 4 [some (ZR 3), some (ZI bits)] [] 284 σ
    refine zr_iload_n (pc := 4) hV dX9_isBits_4 rfl rfl ?_
    refine zr_aload_n (pc := 5) hV dX9_isBits_5 rfl rfl ?_
    refine zr_callVp (pc := 6) hV [] (st := [ZI bits]) (c_X9_bitsInAll (σ := σ) hσ) dX9_isBits_6 mX9_48 (zc_k3 zc_s3) (zc_pos zc_s3 rfl) (by decide) (Nat.le_of_ble_eq_true rfl) (Nat.le_refl _) (fun r6 hr6 pr6 => ?_)
    refine zr_icmp_ge (pc := 9) hV 16 dX9_isBits_9 (by decide) (by omega) (by omega) (fun c2 => ?_) (fun c2 => ?_)
    · show V 16 [some (ZR 3), some (ZI bits)] [] 284 σ
      refine zr_iconst (pc := 16) hV 0 dX9_isBits_16 rfl ?_
      show V 17 [some (ZR 3), some (ZI bits)] [ZI 0] 284 σ
      exact zr_zret (pc := 17) hV dX9_isBits_17 rfl rfl (by omega) ⟨rfl, _, rfl, ⟨by decide, by decide⟩, (by omega)⟩
    · show V 12 [some (ZR 3), some (ZI bits)] [] 284 σ
      refine zr_iconst (pc := 12) hV 1 dX9_isBits_12 rfl ?_
      refine zr_goto (pc := 13) hV 17 dX9_isBits_13 (by decide) ?_
      show V 17 [some (ZR 3), some (ZI bits)] [ZI 1] 284 σ
      exact zr_zret (pc := 17) hV dX9_isBits_17 rfl rfl (by omega) ⟨rfl, _, rfl, ⟨by decide, by decide⟩, (by omega)⟩
set_option maxHeartbeats 800000 in
theorem c_X9_numberOf {σ : zq_S} (hσ : zc_T σ) (bits : Int) (q0 : zq_in bits) : zq_C zc_w yX9_numberOf cX9_numberOf 2 (some .int) 0 0 284 284 [ZR 3, ZI bits] σ (zq_pp σ (fun r => ((-1) ≤ r ∧ r ≤ 19))) := by
  refine zq_C_of (by decide) (Nat.le_refl _) (Nat.le_of_ble_eq_true rfl) [some (ZR 3), some (ZI bits)] rfl (fun V hV => ?_)
  show V 0 [some (ZR 3), some (ZI bits)] [] 284 σ
  refine zr_iload_n (pc := 0) hV dX9_numberOf_0 rfl rfl ?_
  refine zr_if_lt (pc := 1) hV 20 dX9_numberOf_1 (by decide) (by omega) (fun c1 => ?_) (fun c1 => ?_)
  · show V 20 [some (ZR 3), some (ZI bits)] [] 284 σ
    refine zr_iconst (pc := 20) hV (-1) dX9_numberOf_20 rfl ?_
    show V 21 [some (ZR 3), some (ZI bits)] [ZI (-1)] 284 σ
    exact zr_iret (pc := 21) hV dX9_numberOf_21 rfl rfl ⟨rfl, _, rfl, ⟨by decide, by decide⟩, (by omega)⟩
  · show V 4 [some (ZR 3), some (ZI bits)] [] 284 σ
    refine zr_iload_n (pc := 4) hV dX9_numberOf_4 rfl rfl ?_
    refine zr_sipush (pc := 5) hV 4096 dX9_numberOf_5 (by decide) ?_
    refine zr_icmp_ge (pc := 8) hV 20 dX9_numberOf_8 (by decide) (by omega) ⟨by decide, by decide⟩ (fun c2 => ?_) (fun c2 => ?_)
    · show V 20 [some (ZR 3), some (ZI bits)] [] 284 σ
      refine zr_iconst (pc := 20) hV (-1) dX9_numberOf_20 rfl ?_
      show V 21 [some (ZR 3), some (ZI bits)] [ZI (-1)] 284 σ
      exact zr_iret (pc := 21) hV dX9_numberOf_21 rfl rfl ⟨rfl, _, rfl, ⟨by decide, by decide⟩, (by omega)⟩
    · show V 11 [some (ZR 3), some (ZI bits)] [] 284 σ
      refine zr_aload_n (pc := 11) hV dX9_numberOf_11 rfl rfl ?_
      refine zr_getR (pc := 12) hV 7 11 dX9_numberOf_12 fX9_22 rfl rfl (zc_k3 zc_s3) (zc_pos zc_s3 rfl) (zc_g3_7 hσ zc_s3) (by decide) ?_
      refine zr_iload_n (pc := 15) hV dX9_numberOf_15 rfl rfl ?_
      refine zr_iald (pc := 16) hV dX9_numberOf_16 (zc_k11 zc_s11) (zc_pos zc_s11 rfl) rfl (by omega) ?_
      have t3 := zc_ga11 hσ zc_s11 bits
      refine zr_goto (pc := 17) hV 21 dX9_numberOf_17 (by decide) ?_
      show V 21 [some (ZR 3), some (ZI bits)] [ZI (σ 11 bits)] 284 σ
      exact zr_iret (pc := 21) hV dX9_numberOf_21 rfl rfl ⟨rfl, _, rfl, (by omega), (by omega)⟩
set_option maxHeartbeats 800000 in
theorem c_X9_numbered {σ : zq_S} (hσ : zc_T σ) (number : Int) (q0 : zq_in number) : zq_C zc_w yX9_numbered cX9_numbered 2 (some (.object "OrdersTold$Order")) 0 0 284 284 [ZR 3, ZI number] σ (zq_pr σ (fun r => (0 ≤ r → zc_kd r = 4) ∧ (0 ≤ r → 0 ≤ number ∧ number < σ 3 3))) := by
  refine zq_C_of (by decide) (Nat.le_refl _) (Nat.le_of_ble_eq_true rfl) [some (ZR 3), some (ZI number)] rfl (fun V hV => ?_)
  show V 0 [some (ZR 3), some (ZI number)] [] 284 σ
  refine zr_iload_n (pc := 0) hV dX9_numbered_0 rfl rfl ?_
  refine zr_if_lt (pc := 1) hV 21 dX9_numbered_1 (by decide) (by omega) (fun c1 => ?_) (fun c1 => ?_)
  · show V 21 [some (ZR 3), some (ZI number)] [] 284 σ
    refine zr_null (pc := 21) hV dX9_numbered_21 ?_
    show V 22 [some (ZR 3), some (ZI number)] [ZN] 284 σ
    exact zr_aretN (pc := 22) hV dX9_numbered_22 rfl rfl ⟨rfl, _, rfl, fun h => absurd h (by decide), (by omega)⟩
  · show V 4 [some (ZR 3), some (ZI number)] [] 284 σ
    refine zr_iload_n (pc := 4) hV dX9_numbered_4 rfl rfl ?_
    refine zr_aload_n (pc := 5) hV dX9_numbered_5 rfl rfl ?_
    refine zr_getI (pc := 6) hV 3 dX9_numbered_6 fX9_36 rfl rfl (zc_k3 zc_s3) (zc_pos zc_s3 rfl) ?_
    have t2 := zc_g3_3 hσ zc_s3
    refine zr_icmp_ge (pc := 9) hV 21 dX9_numbered_9 (by decide) (by omega) (by omega) (fun c3 => ?_) (fun c3 => ?_)
    · show V 21 [some (ZR 3), some (ZI number)] [] 284 σ
      refine zr_null (pc := 21) hV dX9_numbered_21 ?_
      show V 22 [some (ZR 3), some (ZI number)] [ZN] 284 σ
      exact zr_aretN (pc := 22) hV dX9_numbered_22 rfl rfl ⟨rfl, _, rfl, fun h => absurd h (by decide), (by omega)⟩
    · show V 12 [some (ZR 3), some (ZI number)] [] 284 σ
      refine zr_aload_n (pc := 12) hV dX9_numbered_12 rfl rfl ?_
      refine zr_getR (pc := 13) hV 6 10 dX9_numbered_13 fX9_18 rfl rfl (zc_k3 zc_s3) (zc_pos zc_s3 rfl) (zc_g3_6 hσ zc_s3) (by decide) ?_
      refine zr_iload_n (pc := 16) hV dX9_numbered_16 rfl rfl ?_
      have ga17 : zc_kd (σ 10 number) = 4 := zc_ga10 hσ zc_s10 number (by omega) (by omega)
      refine zr_aald (pc := 17) hV dX9_numbered_17 (zc_k10 zc_s10) (Or.inl rfl) (zc_pos zc_s10 rfl) rfl (by omega) (zc_pos ga17 rfl).1 ?_
      obtain ⟨o17, eo17⟩ : ∃ o, σ 10 number = o := ⟨_, rfl⟩
      rw [eo17] at ga17 ⊢
      have ko17 := ga17
      have po17 := zc_pos ko17 rfl
      show V 18 [some (ZR 3), some (ZI number)] [ZR o17] 284 σ
      refine zr_goto (pc := 18) hV 22 dX9_numbered_18 (by decide) ?_
      show V 22 [some (ZR 3), some (ZI number)] [ZR o17] 284 σ
      exact zr_aretR (pc := 22) hV dX9_numbered_22 rfl rfl (zc_pos ko17 rfl).1 ⟨rfl, _, rfl, fun _ => ko17, (by omega)⟩
set_option maxHeartbeats 800000 in
theorem c_X9_orderOf {σ : zq_S} (hσ : zc_T σ) (bits : Int) (q0 : zq_in bits) : zq_C zc_w yX9_orderOf cX9_orderOf 2 (some (.object "OrdersTold$Order")) 1 21 284 284 [ZR 3, ZI bits] σ (zq_pr σ (fun r => (0 ≤ r → zc_kd r = 4) ∧ (True))) := by
  refine zq_C_of (by decide) (Nat.le_refl _) (Nat.le_of_ble_eq_true rfl) [some (ZR 3), some (ZI bits)] rfl (fun V hV => ?_)
  show V 0 [some (ZR 3), some (ZI bits)] [] 284 σ
  refine zr_aload_n (pc := 0) hV dX9_orderOf_0 rfl rfl ?_
  refine zr_aload_n (pc := 1) hV dX9_orderOf_1 rfl rfl ?_
  refine zr_iload_n (pc := 2) hV dX9_orderOf_2 rfl rfl ?_
  refine zr_callVp (pc := 3) hV [ZI bits] (st := [ZR 3]) (c_X9_numberOf (σ := σ) hσ bits (by omega)) dX9_orderOf_3 mX9_52 (zc_k3 zc_s3) (zc_pos zc_s3 rfl) (by decide) (Nat.le_of_ble_eq_true rfl) (Nat.le_refl _) (fun r3 hr3 pr3 => ?_)
  refine zr_callVr (pc := 6) hV [ZI r3] (st := []) (c_X9_numbered (σ := σ) hσ r3 (by omega)) dX9_orderOf_6 mX9_56 (zc_k3 zc_s3) (zc_pos zc_s3 rfl) (by decide) (Nat.le_of_ble_eq_true rfl) (Nat.le_refl _) (fun r6 pr6 => ?_)
  exact zr_aretQ (pc := 9) hV dX9_orderOf_9 rfl rfl ⟨rfl, _, rfl, pr6.1, trivial⟩
set_option maxHeartbeats 800000 in
theorem c_X9_nameNumber {σ : zq_S} (hσ : zc_T σ) (name : Int) (q0 : zq_in name) : zq_C zc_w yX9_nameNumber cX9_nameNumber 3 (some .int) 0 0 284 284 [ZR 3, ZI name] σ (zq_pp σ (fun r => True)) := by
  refine zq_C_of (by decide) (Nat.le_refl _) (Nat.le_of_ble_eq_true rfl) [some (ZR 3), some (ZI name), none] rfl (fun V hV => ?_)
  show V 0 [some (ZR 3), some (ZI name), none] [] 284 σ
  refine zr_iconst (pc := 0) hV 0 dX9_nameNumber_0 rfl ?_
  refine zr_istore_n (pc := 1) hV [some (ZR 3), some (ZI name), some (ZI 0)] dX9_nameNumber_1 rfl (by decide) rfl rfl ?_
  have L2 : ∀ (fuel : Nat) (x2_2 : Int), (0 ≤ x2_2 ∧ x2_2 ≤ 20) → 20 - x2_2 < (fuel : Int) → V 2 [some (ZR 3), some (ZI name), some (ZI x2_2)] [] 284 σ := by
    intro fuel
    induction fuel with
    | zero =>
      intro x2_2 hx2_2 hm2
      exfalso; omega
    | succ fuel ih =>
      intro x2_2 hx2_2 hm2
      have ih2 := ih
      show V 2 [some (ZR 3), some (ZI name), some (ZI x2_2)] [] 284 σ
      refine zr_iload_n (pc := 2) hV dX9_nameNumber_2 rfl rfl ?_
      refine zr_aload_n (pc := 3) hV dX9_nameNumber_3 rfl rfl ?_
      refine zr_getI (pc := 4) hV 3 dX9_nameNumber_4 fX9_36 rfl rfl (zc_k3 zc_s3) (zc_pos zc_s3 rfl) ?_
      have t1 := zc_g3_3 hσ zc_s3
      refine zr_icmp_ge (pc := 7) hV 31 dX9_nameNumber_7 (by decide) (by omega) (by omega) (fun c2 => ?_) (fun c2 => ?_)
      · show V 31 [some (ZR 3), some (ZI name), some (ZI x2_2)] [] 284 σ
        refine zr_iconst (pc := 31) hV (-1) dX9_nameNumber_31 rfl ?_
        exact zr_iret (pc := 32) hV dX9_nameNumber_32 rfl rfl ⟨rfl, _, rfl, ⟨by decide, by decide⟩, trivial⟩
      · show V 10 [some (ZR 3), some (ZI name), some (ZI x2_2)] [] 284 σ
        refine zr_aload_n (pc := 10) hV dX9_nameNumber_10 rfl rfl ?_
        refine zr_getR (pc := 11) hV 6 10 dX9_nameNumber_11 fX9_18 rfl rfl (zc_k3 zc_s3) (zc_pos zc_s3 rfl) (zc_g3_6 hσ zc_s3) (by decide) ?_
        refine zr_iload_n (pc := 14) hV dX9_nameNumber_14 rfl rfl ?_
        have ga15 : zc_kd (σ 10 x2_2) = 4 := zc_ga10 hσ zc_s10 x2_2 (by omega) (by omega)
        refine zr_aald (pc := 15) hV dX9_nameNumber_15 (zc_k10 zc_s10) (Or.inl rfl) (zc_pos zc_s10 rfl) rfl (by omega) (zc_pos ga15 rfl).1 ?_
        obtain ⟨o15, eo15⟩ : ∃ o, σ 10 x2_2 = o := ⟨_, rfl⟩
        rw [eo15] at ga15 ⊢
        have ko15 := ga15
        have po15 := zc_pos ko15 rfl
        show V 16 [some (ZR 3), some (ZI name), some (ZI x2_2)] [ZR o15] 284 σ
        refine zr_getI (pc := 16) hV 0 dX9_nameNumber_16 fX9_60 rfl rfl (zc_k4 ko15) (zc_pos ko15 rfl) ?_
        have t3 := zc_g4_0 hσ ko15
        refine zr_iload_n (pc := 19) hV dX9_nameNumber_19 rfl rfl ?_
        refine zr_icmp_ne (pc := 20) hV 25 dX9_nameNumber_20 (by decide) (by omega) (by omega) (fun c4 => ?_) (fun c4 => ?_)
        · show V 25 [some (ZR 3), some (ZI name), some (ZI x2_2)] [] 284 σ
          refine zr_iinc (pc := 25) hV [some (ZR 3), some (ZI name), some (ZI (x2_2 + 1))] (x2_2 + 1) dX9_nameNumber_25 rfl rfl (by decide) rfl rfl ?_
          refine zr_goto (pc := 28) hV 2 dX9_nameNumber_28 (by decide) ?_
          exact ih2 (x2_2 + 1) (by omega) (by omega)
        · show V 23 [some (ZR 3), some (ZI name), some (ZI x2_2)] [] 284 σ
          refine zr_iload_n (pc := 23) hV dX9_nameNumber_23 rfl rfl ?_
          exact zr_iret (pc := 24) hV dX9_nameNumber_24 rfl rfl ⟨rfl, _, rfl, (by omega), trivial⟩
  exact L2 (20 - (0 : Int) + 1 : Int).toNat 0 (by omega) (by omega)
set_option maxHeartbeats 800000 in
theorem c_X9_countHoles {σ : zq_S} (hσ : zc_T σ)   : zq_C zc_w yX9_countHoles cX9_countHoles 3 (some .int) 1 20 284 284 [ZR 3] σ (zq_pp σ (fun r => True)) := by
  refine zq_C_of (by decide) (Nat.le_refl _) (Nat.le_of_ble_eq_true rfl) [some (ZR 3), none, none] rfl (fun V hV => ?_)
  show V 0 [some (ZR 3), none, none] [] 284 σ
  refine zr_aload_n (pc := 0) hV dX9_countHoles_0 rfl rfl ?_
  refine zr_callVp (pc := 1) hV [] (st := []) (c_X9_bitsInAll (σ := σ) hσ) dX9_countHoles_1 mX9_48 (zc_k3 zc_s3) (zc_pos zc_s3 rfl) (by decide) (Nat.le_of_ble_eq_true rfl) (Nat.le_refl _) (fun r1 hr1 pr1 => ?_)
  refine zr_istore_n (pc := 4) hV [some (ZR 3), some (ZI r1), none] dX9_countHoles_4 rfl (by decide) rfl rfl ?_
  refine zr_iconst (pc := 5) hV 0 dX9_countHoles_5 rfl ?_
  refine zr_istore_n (pc := 6) hV [some (ZR 3), some (ZI r1), some (ZI 0)] dX9_countHoles_6 rfl (by decide) rfl rfl ?_
  have L7 : ∀ (fuel : Nat) (x1_7 : Int) (x2_7 : Int), ((-2147483648) ≤ x1_7 ∧ x1_7 ≤ 2147483647) → (0 ≤ x2_7 ∧ x2_7 ≤ 20) → 20 - x2_7 < (fuel : Int) → V 7 [some (ZR 3), some (ZI x1_7), some (ZI x2_7)] [] 284 σ := by
    intro fuel
    induction fuel with
    | zero =>
      intro x1_7 x2_7 hx1_7 hx2_7 hm7
      exfalso; omega
    | succ fuel ih =>
      intro x1_7 x2_7 hx1_7 hx2_7 hm7
      have ih7 := ih
      show V 7 [some (ZR 3), some (ZI x1_7), some (ZI x2_7)] [] 284 σ
      refine zr_iload_n (pc := 7) hV dX9_countHoles_7 rfl rfl ?_
      refine zr_aload_n (pc := 8) hV dX9_countHoles_8 rfl rfl ?_
      refine zr_getI (pc := 9) hV 3 dX9_countHoles_9 fX9_36 rfl rfl (zc_k3 zc_s3) (zc_pos zc_s3 rfl) ?_
      have t1 := zc_g3_3 hσ zc_s3
      refine zr_icmp_ge (pc := 12) hV 43 dX9_countHoles_12 (by decide) (by omega) (by omega) (fun c2 => ?_) (fun c2 => ?_)
      · show V 43 [some (ZR 3), some (ZI x1_7), some (ZI x2_7)] [] 284 σ
        refine zr_iload_n (pc := 43) hV dX9_countHoles_43 rfl rfl ?_
        exact zr_iret (pc := 44) hV dX9_countHoles_44 rfl rfl ⟨rfl, _, rfl, (by omega), trivial⟩
      · show V 15 [some (ZR 3), some (ZI x1_7), some (ZI x2_7)] [] 284 σ
        refine zr_iload_n (pc := 15) hV dX9_countHoles_15 rfl rfl ?_
        refine zr_iconst (pc := 16) hV 1 dX9_countHoles_16 rfl ?_
        refine zr_aload_n (pc := 17) hV dX9_countHoles_17 rfl rfl ?_
        refine zr_getI (pc := 18) hV 2 dX9_countHoles_18 fX9_33 rfl rfl (zc_k3 zc_s3) (zc_pos zc_s3 rfl) ?_
        have t3 := zc_g3_2 hσ zc_s3
        refine zr_aload_n (pc := 21) hV dX9_countHoles_21 rfl rfl ?_
        refine zr_getR (pc := 22) hV 6 10 dX9_countHoles_22 fX9_18 rfl rfl (zc_k3 zc_s3) (zc_pos zc_s3 rfl) (zc_g3_6 hσ zc_s3) (by decide) ?_
        refine zr_iload_n (pc := 25) hV dX9_countHoles_25 rfl rfl ?_
        have ga26 : zc_kd (σ 10 x2_7) = 4 := zc_ga10 hσ zc_s10 x2_7 (by omega) (by omega)
        refine zr_aald (pc := 26) hV dX9_countHoles_26 (zc_k10 zc_s10) (Or.inl rfl) (zc_pos zc_s10 rfl) rfl (by omega) (zc_pos ga26 rfl).1 ?_
        obtain ⟨o26, eo26⟩ : ∃ o, σ 10 x2_7 = o := ⟨_, rfl⟩
        rw [eo26] at ga26 ⊢
        have ko26 := ga26
        have po26 := zc_pos ko26 rfl
        show V 27 [some (ZR 3), some (ZI x1_7), some (ZI x2_7)] [ZR o26, ZI (σ 3 2), ZI 1, ZI x1_7] 284 σ
        refine zr_getI (pc := 27) hV 1 dX9_countHoles_27 fX9_72 rfl rfl (zc_k4 ko26) (zc_pos ko26 rfl) ?_
        have t4 := zc_g4_1 hσ ko26
        have t5 := zc_g4_1 hσ ko26
        refine zr_callSp (pc := 30) hV [ZI (σ o26 1)] (st := [ZI (σ 3 2), ZI 1, ZI x1_7]) (c_J6_bitCount_0f7a4 (σ := σ) (σ o26 1) (by omega)) dX9_countHoles_30 mX9_92 (by decide) (Nat.le_of_ble_eq_true rfl) (Nat.le_refl _) (fun r30 hr30 pr30 => ?_)
        refine zr_isub (pc := 33) hV dX9_countHoles_33 ?_
        refine zr_ishl (pc := 34) hV dX9_countHoles_34 ?_
        have t6 := zq_shl_in 1 ((σ 3 2) - r30)
        refine zr_isub (pc := 35) hV dX9_countHoles_35 ?_
        refine zr_any (pc := 36) hV (fun y36 hy36 _ => ?_)
        refine zr_istore_n (pc := 36) hV [some (ZR 3), some (ZI y36), some (ZI x2_7)] dX9_countHoles_36 rfl (by decide) rfl rfl ?_
        refine zr_iinc (pc := 37) hV [some (ZR 3), some (ZI y36), some (ZI (x2_7 + 1))] (x2_7 + 1) dX9_countHoles_37 rfl rfl (by decide) rfl rfl ?_
        refine zr_goto (pc := 40) hV 7 dX9_countHoles_40 (by decide) ?_
        exact ih7 y36 (x2_7 + 1) (by omega) (by omega) (by omega)
  exact L7 (20 - (0 : Int) + 1 : Int).toNat r1 0 (by omega) (by omega) (by omega)
set_option maxHeartbeats 800000 in
theorem c_X9_firstHole {σ : zq_S} (hσ : zc_T σ) (from_ : Int) (q0 : 0 ≤ from_ ∧ from_ ≤ 4095) : zq_C zc_w yX9_firstHole cX9_firstHole 3 (some .int) 1 20 284 284 [ZR 3, ZI from_] σ (zq_pp σ (fun r => True)) := by
  refine zq_C_of (by decide) (Nat.le_refl _) (Nat.le_of_ble_eq_true rfl) [some (ZR 3), some (ZI from_), none] rfl (fun V hV => ?_)
  show V 0 [some (ZR 3), some (ZI from_), none] [] 284 σ
  refine zr_iload_n (pc := 0) hV dX9_firstHole_0 rfl rfl ?_
  refine zr_istore_n (pc := 1) hV [some (ZR 3), some (ZI from_), some (ZI from_)] dX9_firstHole_1 rfl (by decide) rfl rfl ?_
  have L2 : ∀ (fuel : Nat) (x2_2 : Int), (0 ≤ x2_2 ∧ x2_2 ≤ 4096) → 4096 - x2_2 < (fuel : Int) → V 2 [some (ZR 3), none, some (ZI x2_2)] [] 284 σ := by
    intro fuel
    induction fuel with
    | zero =>
      intro x2_2 hx2_2 hm2
      exfalso; omega
    | succ fuel ih =>
      intro x2_2 hx2_2 hm2
      have ih2 := ih
      show V 2 [some (ZR 3), none, some (ZI x2_2)] [] 284 σ
      refine zr_iload_n (pc := 2) hV dX9_firstHole_2 rfl rfl ?_
      refine zr_aload_n (pc := 3) hV dX9_firstHole_3 rfl rfl ?_
      refine zr_callVp (pc := 4) hV [] (st := [ZI x2_2]) (c_X9_bitsInAll (σ := σ) hσ) dX9_firstHole_4 mX9_48 (zc_k3 zc_s3) (zc_pos zc_s3 rfl) (by decide) (Nat.le_of_ble_eq_true rfl) (Nat.le_refl _) (fun r4 hr4 pr4 => ?_)
      refine zr_icmp_ge (pc := 7) hV 28 dX9_firstHole_7 (by decide) (by omega) (by omega) (fun c1 => ?_) (fun c1 => ?_)
      · show V 28 [some (ZR 3), none, some (ZI x2_2)] [] 284 σ
        refine zr_bipush (pc := 28) hV (-4) dX9_firstHole_28 (by decide) ?_
        exact zr_iret (pc := 30) hV dX9_firstHole_30 rfl rfl ⟨rfl, _, rfl, ⟨by decide, by decide⟩, trivial⟩
      · show V 10 [some (ZR 3), none, some (ZI x2_2)] [] 284 σ
        refine zr_aload_n (pc := 10) hV dX9_firstHole_10 rfl rfl ?_
        refine zr_getR (pc := 11) hV 7 11 dX9_firstHole_11 fX9_22 rfl rfl (zc_k3 zc_s3) (zc_pos zc_s3 rfl) (zc_g3_7 hσ zc_s3) (by decide) ?_
        refine zr_iload_n (pc := 14) hV dX9_firstHole_14 rfl rfl ?_
        refine zr_iald (pc := 15) hV dX9_firstHole_15 (zc_k11 zc_s11) (zc_pos zc_s11 rfl) rfl (by omega) ?_
        have t2 := zc_ga11 hσ zc_s11 x2_2
        refine zr_iconst (pc := 16) hV (-1) dX9_firstHole_16 rfl ?_
        refine zr_icmp_ne (pc := 17) hV 22 dX9_firstHole_17 (by decide) (by omega) ⟨by decide, by decide⟩ (fun c3 => ?_) (fun c3 => ?_)
        · show V 22 [some (ZR 3), none, some (ZI x2_2)] [] 284 σ
          refine zr_iinc (pc := 22) hV [some (ZR 3), none, some (ZI (x2_2 + 1))] (x2_2 + 1) dX9_firstHole_22 rfl rfl (by decide) rfl rfl ?_
          refine zr_goto (pc := 25) hV 2 dX9_firstHole_25 (by decide) ?_
          exact ih2 (x2_2 + 1) (by omega) (by omega)
        · show V 20 [some (ZR 3), none, some (ZI x2_2)] [] 284 σ
          refine zr_iload_n (pc := 20) hV dX9_firstHole_20 rfl rfl ?_
          exact zr_iret (pc := 21) hV dX9_firstHole_21 rfl rfl ⟨rfl, _, rfl, (by omega), trivial⟩
  refine zr_sub (pc := 2) hV [some (ZR 3), none, some (ZI from_)] (⟨rfl, rfl, trivial⟩) ?_
  exact L2 (4096 - from_ + 1 : Int).toNat from_ (by omega) (by omega)
set_option maxHeartbeats 800000 in
theorem c_X9_tellAlike {σ : zq_S} (hσ : zc_T σ) (bits : Int) (nextBits : Int) (q0 : zq_in bits) (q1 : zq_in nextBits) : zq_C zc_w yX9_tellAlike cX9_tellAlike 6 (some .boolean) 2 42 284 284 [ZR 3, ZI bits, ZI nextBits] σ (zq_pp σ (fun r => (0 ≤ r ∧ r ≤ 1))) := by
  refine zq_C_of (by decide) (Nat.le_refl _) (Nat.le_of_ble_eq_true rfl) [some (ZR 3), some (ZI bits), some (ZI nextBits), none, none, none] rfl (fun V hV => ?_)
  show V 0 [some (ZR 3), some (ZI bits), some (ZI nextBits), none, none, none] [] 284 σ
  refine zr_aload_n (pc := 0) hV dX9_tellAlike_0 rfl rfl ?_
  refine zr_iload_n (pc := 1) hV dX9_tellAlike_1 rfl rfl ?_
  refine zr_callVr (pc := 2) hV [ZI bits] (st := []) (c_X9_orderOf (σ := σ) hσ bits (by omega)) dX9_tellAlike_2 mX9_101 (zc_k3 zc_s3) (zc_pos zc_s3 rfl) (by decide) (Nat.le_of_ble_eq_true rfl) (Nat.le_refl _) (fun r2 pr2 => ?_)
  refine zr_astore_nQ (pc := 5) hV [some (ZR 3), some (ZI bits), some (ZI nextBits), some (zq_nr r2), none, none] dX9_tellAlike_5 rfl (by decide) rfl rfl ?_
  refine zr_aload_n (pc := 6) hV dX9_tellAlike_6 rfl rfl ?_
  refine zr_iload_n (pc := 7) hV dX9_tellAlike_7 rfl rfl ?_
  refine zr_callVr (pc := 8) hV [ZI nextBits] (st := []) (c_X9_orderOf (σ := σ) hσ nextBits (by omega)) dX9_tellAlike_8 mX9_101 (zc_k3 zc_s3) (zc_pos zc_s3 rfl) (by decide) (Nat.le_of_ble_eq_true rfl) (Nat.le_refl _) (fun r8 pr8 => ?_)
  refine zr_astoreQ (pc := 11) hV [some (ZR 3), some (ZI bits), some (ZI nextBits), some (zq_nr r2), some (zq_nr r8), none] dX9_tellAlike_11 (by decide) (by simp only [zq_nr]; split <;> rfl) rfl ?_
  refine zr_aload_nQ (pc := 13) hV dX9_tellAlike_13 rfl rfl ?_
  by_cases c1 : r2 < 0
  · rw [zq_nr_n c1]
    refine zr_ifnullN (pc := 14) hV 22 dX9_tellAlike_14 (by decide) ?_
    show V 22 [some (ZR 3), some (ZI bits), some (ZI nextBits), some (ZN), some (zq_nr r8), none] [] 284 σ
    refine zr_iconst (pc := 22) hV 0 dX9_tellAlike_22 rfl ?_
    exact zr_zret (pc := 23) hV dX9_tellAlike_23 rfl rfl (by omega) ⟨rfl, _, rfl, ⟨by decide, by decide⟩, (by omega)⟩
  · rw [zq_nr_p c1]
    have kr2 : zc_kd r2 = 4 := pr2.1 (by omega)
    have por2 := zc_pos kr2 rfl
    refine zr_ifnull (pc := 14) hV dX9_tellAlike_14 ?_
    show V 17 [some (ZR 3), some (ZI bits), some (ZI nextBits), some (ZR r2), some (zq_nr r8), none] [] 284 σ
    refine zr_aloadQ (pc := 17) hV dX9_tellAlike_17 rfl ?_
    by_cases c2 : r8 < 0
    · rw [zq_nr_n c2]
      refine zr_ifnonnullN (pc := 19) hV dX9_tellAlike_19 ?_
      show V 22 [some (ZR 3), some (ZI bits), some (ZI nextBits), some (ZR r2), some (ZN), none] [] 284 σ
      refine zr_iconst (pc := 22) hV 0 dX9_tellAlike_22 rfl ?_
      exact zr_zret (pc := 23) hV dX9_tellAlike_23 rfl rfl (by omega) ⟨rfl, _, rfl, ⟨by decide, by decide⟩, (by omega)⟩
    · rw [zq_nr_p c2]
      have kr8 : zc_kd r8 = 4 := pr8.1 (by omega)
      have por8 := zc_pos kr8 rfl
      refine zr_ifnonnull (pc := 19) hV 24 dX9_tellAlike_19 (by decide) ?_
      show V 24 [some (ZR 3), some (ZI bits), some (ZI nextBits), some (ZR r2), some (ZR r8), none] [] 284 σ
      refine zr_iconst (pc := 24) hV 0 dX9_tellAlike_24 rfl ?_
      refine zr_istore (pc := 25) hV [some (ZR 3), some (ZI bits), some (ZI nextBits), some (ZR r2), some (ZR r8), some (ZI 0)] dX9_tellAlike_25 (by decide) rfl rfl ?_
      have L27 : ∀ (fuel : Nat) (x5_27 : Int), (0 ≤ x5_27 ∧ x5_27 ≤ 4) → 4 - x5_27 < (fuel : Int) → V 27 [none, some (ZI bits), some (ZI nextBits), some (ZR r2), some (ZR r8), some (ZI x5_27)] [] 284 σ := by
        intro fuel
        induction fuel with
        | zero =>
          intro x5_27 hx5_27 hm27
          exfalso; omega
        | succ fuel ih =>
          intro x5_27 hx5_27 hm27
          have ih27 := ih
          show V 27 [none, some (ZI bits), some (ZI nextBits), some (ZR r2), some (ZR r8), some (ZI x5_27)] [] 284 σ
          refine zr_iload (pc := 27) hV dX9_tellAlike_27 rfl ?_
          refine zr_iconst (pc := 29) hV 3 dX9_tellAlike_29 rfl ?_
          refine zr_icmp_gt (pc := 30) hV 78 dX9_tellAlike_30 (by decide) (by omega) ⟨by decide, by decide⟩ (fun c3 => ?_) (fun c3 => ?_)
          · show V 78 [none, some (ZI bits), some (ZI nextBits), some (ZR r2), some (ZR r8), some (ZI x5_27)] [] 284 σ
            refine zr_iconst (pc := 78) hV 1 dX9_tellAlike_78 rfl ?_
            exact zr_zret (pc := 79) hV dX9_tellAlike_79 rfl rfl (by omega) ⟨rfl, _, rfl, ⟨by decide, by decide⟩, (by omega)⟩
          · show V 33 [none, some (ZI bits), some (ZI nextBits), some (ZR r2), some (ZR r8), some (ZI x5_27)] [] 284 σ
            refine zr_aload_n (pc := 33) hV dX9_tellAlike_33 rfl rfl ?_
            refine zr_iload (pc := 34) hV dX9_tellAlike_34 rfl ?_
            refine zr_callVp (pc := 36) hV [ZI x5_27] (st := []) (c_X3_hasField (σ := σ) hσ r2 kr2 x5_27 (by omega)) dX9_tellAlike_36 mX9_104 (zc_k4 kr2) (zc_pos kr2 rfl) (by decide) (Nat.le_of_ble_eq_true rfl) (Nat.le_refl _) (fun r36 hr36 pr36 => ?_)
            refine zr_if_eq (pc := 39) hV 72 dX9_tellAlike_39 (by decide) (by omega) (fun c4 => ?_) (fun c4 => ?_)
            · show V 72 [none, some (ZI bits), some (ZI nextBits), some (ZR r2), some (ZR r8), some (ZI x5_27)] [] 284 σ
              refine zr_iinc (pc := 72) hV [none, some (ZI bits), some (ZI nextBits), some (ZR r2), some (ZR r8), some (ZI (x5_27 + 1))] (x5_27 + 1) dX9_tellAlike_72 rfl rfl (by decide) rfl rfl ?_
              refine zr_goto (pc := 75) hV 27 dX9_tellAlike_75 (by decide) ?_
              exact ih27 (x5_27 + 1) (by omega) (by omega)
            · show V 42 [none, some (ZI bits), some (ZI nextBits), some (ZR r2), some (ZR r8), some (ZI x5_27)] [] 284 σ
              refine zr_aload (pc := 42) hV dX9_tellAlike_42 rfl ?_
              refine zr_iload (pc := 44) hV dX9_tellAlike_44 rfl ?_
              refine zr_callVp (pc := 46) hV [ZI x5_27] (st := []) (c_X3_hasField (σ := σ) hσ r8 kr8 x5_27 (by omega)) dX9_tellAlike_46 mX9_104 (zc_k4 kr8) (zc_pos kr8 rfl) (by decide) (Nat.le_of_ble_eq_true rfl) (Nat.le_refl _) (fun r46 hr46 pr46 => ?_)
              refine zr_if_eq (pc := 49) hV 72 dX9_tellAlike_49 (by decide) (by omega) (fun c5 => ?_) (fun c5 => ?_)
              · show V 72 [none, some (ZI bits), some (ZI nextBits), some (ZR r2), some (ZR r8), some (ZI x5_27)] [] 284 σ
                refine zr_iinc (pc := 72) hV [none, some (ZI bits), some (ZI nextBits), some (ZR r2), some (ZR r8), some (ZI (x5_27 + 1))] (x5_27 + 1) dX9_tellAlike_72 rfl rfl (by decide) rfl rfl ?_
                refine zr_goto (pc := 75) hV 27 dX9_tellAlike_75 (by decide) ?_
                exact ih27 (x5_27 + 1) (by omega) (by omega)
              · show V 52 [none, some (ZI bits), some (ZI nextBits), some (ZR r2), some (ZR r8), some (ZI x5_27)] [] 284 σ
                refine zr_aload_n (pc := 52) hV dX9_tellAlike_52 rfl rfl ?_
                refine zr_iload_n (pc := 53) hV dX9_tellAlike_53 rfl rfl ?_
                refine zr_iload (pc := 54) hV dX9_tellAlike_54 rfl ?_
                refine zr_callVp (pc := 56) hV [ZI bits, ZI x5_27] (st := []) (c_X3_fieldOf (σ := σ) hσ r2 kr2 bits x5_27 (by omega) (by omega)) dX9_tellAlike_56 mX9_107 (zc_k4 kr2) (zc_pos kr2 rfl) (by decide) (Nat.le_of_ble_eq_true rfl) (Nat.le_refl _) (fun r56 hr56 pr56 => ?_)
                refine zr_aload (pc := 59) hV dX9_tellAlike_59 rfl ?_
                refine zr_iload_n (pc := 61) hV dX9_tellAlike_61 rfl rfl ?_
                refine zr_iload (pc := 62) hV dX9_tellAlike_62 rfl ?_
                refine zr_callVp (pc := 64) hV [ZI nextBits, ZI x5_27] (st := [ZI r56]) (c_X3_fieldOf (σ := σ) hσ r8 kr8 nextBits x5_27 (by omega) (by omega)) dX9_tellAlike_64 mX9_107 (zc_k4 kr8) (zc_pos kr8 rfl) (by decide) (Nat.le_of_ble_eq_true rfl) (Nat.le_refl _) (fun r64 hr64 pr64 => ?_)
                refine zr_icmp_eq (pc := 67) hV 72 dX9_tellAlike_67 (by decide) (by omega) (by omega) (fun c6 => ?_) (fun c6 => ?_)
                · show V 72 [none, some (ZI bits), some (ZI nextBits), some (ZR r2), some (ZR r8), some (ZI x5_27)] [] 284 σ
                  refine zr_iinc (pc := 72) hV [none, some (ZI bits), some (ZI nextBits), some (ZR r2), some (ZR r8), some (ZI (x5_27 + 1))] (x5_27 + 1) dX9_tellAlike_72 rfl rfl (by decide) rfl rfl ?_
                  refine zr_goto (pc := 75) hV 27 dX9_tellAlike_75 (by decide) ?_
                  exact ih27 (x5_27 + 1) (by omega) (by omega)
                · show V 70 [none, some (ZI bits), some (ZI nextBits), some (ZR r2), some (ZR r8), some (ZI x5_27)] [] 284 σ
                  refine zr_iconst (pc := 70) hV 0 dX9_tellAlike_70 rfl ?_
                  exact zr_zret (pc := 71) hV dX9_tellAlike_71 rfl rfl (by omega) ⟨rfl, _, rfl, ⟨by decide, by decide⟩, (by omega)⟩
      refine zr_sub (pc := 27) hV [none, some (ZI bits), some (ZI nextBits), some (ZR r2), some (ZR r8), some (ZI 0)] (⟨rfl, rfl, rfl, rfl, rfl, trivial⟩) ?_
      exact L27 (4 - (0 : Int) + 1 : Int).toNat 0 (by omega) (by omega)
set_option maxHeartbeats 800000 in
theorem c_X9_countPairs {σ : zq_S} (hσ : zc_T σ) (a : Int) (b : Int) (end_ : Int) (q0 : zq_in a) (q1 : zq_in b) (q2 : 0 ≤ end_ ∧ end_ ≤ 64) : zq_C zc_w yX9_countPairs cX9_countPairs 7 (some .int) 3 67 284 284 [ZR 3, ZR 139, ZI a, ZI b, ZI end_] σ (zq_pp σ (fun r => True)) := by
  refine zq_C_of (by decide) (Nat.le_refl _) (Nat.le_of_ble_eq_true rfl) [some (ZR 3), some (ZR 139), some (ZI a), some (ZI b), some (ZI end_), none, none] rfl (fun V hV => ?_)
  show V 0 [some (ZR 3), some (ZR 139), some (ZI a), some (ZI b), some (ZI end_), none, none] [] 284 σ
  refine zr_iconst (pc := 0) hV 0 dX9_countPairs_0 rfl ?_
  refine zr_istore (pc := 1) hV [some (ZR 3), some (ZR 139), some (ZI a), some (ZI b), some (ZI end_), some (ZI 0), none] dX9_countPairs_1 (by decide) rfl rfl ?_
  refine zr_iconst (pc := 3) hV 0 dX9_countPairs_3 rfl ?_
  refine zr_istore (pc := 4) hV [some (ZR 3), some (ZR 139), some (ZI a), some (ZI b), some (ZI end_), some (ZI 0), some (ZI 0)] dX9_countPairs_4 (by decide) rfl rfl ?_
  have L6 : ∀ (fuel : Nat) (x5_6 : Int) (x6_6 : Int), (0 ≤ x5_6 ∧ x5_6 ≤ 65) → (0 ≤ x6_6 ∧ x6_6 ≤ 65) → (x5_6 ≤ x6_6) → 66 - x6_6 < (fuel : Int) → V 6 [some (ZR 3), some (ZR 139), some (ZI a), some (ZI b), some (ZI end_), some (ZI x5_6), some (ZI x6_6)] [] 284 σ := by
    intro fuel
    induction fuel with
    | zero =>
      intro x5_6 x6_6 hx5_6 hx6_6 hi6_0 hm6
      exfalso; omega
    | succ fuel ih =>
      intro x5_6 x6_6 hx5_6 hx6_6 hi6_0 hm6
      have ih6 := ih
      show V 6 [some (ZR 3), some (ZR 139), some (ZI a), some (ZI b), some (ZI end_), some (ZI x5_6), some (ZI x6_6)] [] 284 σ
      refine zr_iload (pc := 6) hV dX9_countPairs_6 rfl ?_
      refine zr_iconst (pc := 8) hV 1 dX9_countPairs_8 rfl ?_
      refine zr_iadd (pc := 9) hV dX9_countPairs_9 ?_
      refine zr_iload (pc := 10) hV dX9_countPairs_10 rfl ?_
      refine zr_icmp_ge (pc := 12) hV 70 dX9_countPairs_12 (by decide) (by omega) (by omega) (fun c1 => ?_) (fun c1 => ?_)
      · show V 70 [some (ZR 3), some (ZR 139), some (ZI a), some (ZI b), some (ZI end_), some (ZI x5_6), some (ZI x6_6)] [] 284 σ
        refine zr_iload (pc := 70) hV dX9_countPairs_70 rfl ?_
        exact zr_iret (pc := 72) hV dX9_countPairs_72 rfl rfl ⟨rfl, _, rfl, (by omega), trivial⟩
      · show V 15 [some (ZR 3), some (ZR 139), some (ZI a), some (ZI b), some (ZI end_), some (ZI x5_6), some (ZI x6_6)] [] 284 σ
        refine zr_aload_n (pc := 15) hV dX9_countPairs_15 rfl rfl ?_
        refine zr_aload_n (pc := 16) hV dX9_countPairs_16 rfl rfl ?_
        refine zr_iload (pc := 17) hV dX9_countPairs_17 rfl ?_
        refine zr_iald (pc := 19) hV dX9_countPairs_19 (zc_k139 zc_s139) (zc_pos zc_s139 rfl) rfl (by omega) ?_
        have t2 := zc_ga139 hσ zc_s139 x6_6
        refine zr_callVp (pc := 20) hV [ZI (σ 139 x6_6)] (st := []) (c_X9_numberOf (σ := σ) hσ (σ 139 x6_6) (by omega)) dX9_countPairs_20 mX9_52 (zc_k3 zc_s3) (zc_pos zc_s3 rfl) (by decide) (Nat.le_of_ble_eq_true rfl) (Nat.le_refl _) (fun r20 hr20 pr20 => ?_)
        refine zr_iload_n (pc := 23) hV dX9_countPairs_23 rfl rfl ?_
        refine zr_icmp_ne (pc := 24) hV 64 dX9_countPairs_24 (by decide) (by omega) (by omega) (fun c3 => ?_) (fun c3 => ?_)
        · show V 64 [some (ZR 3), some (ZR 139), some (ZI a), some (ZI b), some (ZI end_), some (ZI x5_6), some (ZI x6_6)] [] 284 σ
          refine zr_iinc (pc := 64) hV [some (ZR 3), some (ZR 139), some (ZI a), some (ZI b), some (ZI end_), some (ZI x5_6), some (ZI (x6_6 + 1))] (x6_6 + 1) dX9_countPairs_64 rfl rfl (by decide) rfl rfl ?_
          refine zr_goto (pc := 67) hV 6 dX9_countPairs_67 (by decide) ?_
          exact ih6 x5_6 (x6_6 + 1) (by omega) (by omega) (by omega) (by omega)
        · show V 27 [some (ZR 3), some (ZR 139), some (ZI a), some (ZI b), some (ZI end_), some (ZI x5_6), some (ZI x6_6)] [] 284 σ
          refine zr_aload_n (pc := 27) hV dX9_countPairs_27 rfl rfl ?_
          refine zr_aload_n (pc := 28) hV dX9_countPairs_28 rfl rfl ?_
          refine zr_iload (pc := 29) hV dX9_countPairs_29 rfl ?_
          refine zr_iconst (pc := 31) hV 1 dX9_countPairs_31 rfl ?_
          refine zr_iadd (pc := 32) hV dX9_countPairs_32 ?_
          refine zr_iald (pc := 33) hV dX9_countPairs_33 (zc_k139 zc_s139) (zc_pos zc_s139 rfl) rfl (by omega) ?_
          have t4 := zc_ga139 hσ zc_s139 (x6_6 + 1)
          refine zr_callVp (pc := 34) hV [ZI (σ 139 (x6_6 + 1))] (st := []) (c_X9_numberOf (σ := σ) hσ (σ 139 (x6_6 + 1)) (by omega)) dX9_countPairs_34 mX9_52 (zc_k3 zc_s3) (zc_pos zc_s3 rfl) (by decide) (Nat.le_of_ble_eq_true rfl) (Nat.le_refl _) (fun r34 hr34 pr34 => ?_)
          refine zr_iload_n (pc := 37) hV dX9_countPairs_37 rfl rfl ?_
          refine zr_icmp_ne (pc := 38) hV 64 dX9_countPairs_38 (by decide) (by omega) (by omega) (fun c5 => ?_) (fun c5 => ?_)
          · show V 64 [some (ZR 3), some (ZR 139), some (ZI a), some (ZI b), some (ZI end_), some (ZI x5_6), some (ZI x6_6)] [] 284 σ
            refine zr_iinc (pc := 64) hV [some (ZR 3), some (ZR 139), some (ZI a), some (ZI b), some (ZI end_), some (ZI x5_6), some (ZI (x6_6 + 1))] (x6_6 + 1) dX9_countPairs_64 rfl rfl (by decide) rfl rfl ?_
            refine zr_goto (pc := 67) hV 6 dX9_countPairs_67 (by decide) ?_
            exact ih6 x5_6 (x6_6 + 1) (by omega) (by omega) (by omega) (by omega)
          · show V 41 [some (ZR 3), some (ZR 139), some (ZI a), some (ZI b), some (ZI end_), some (ZI x5_6), some (ZI x6_6)] [] 284 σ
            refine zr_aload_n (pc := 41) hV dX9_countPairs_41 rfl rfl ?_
            refine zr_aload_n (pc := 42) hV dX9_countPairs_42 rfl rfl ?_
            refine zr_iload (pc := 43) hV dX9_countPairs_43 rfl ?_
            refine zr_iald (pc := 45) hV dX9_countPairs_45 (zc_k139 zc_s139) (zc_pos zc_s139 rfl) rfl (by omega) ?_
            have t6 := zc_ga139 hσ zc_s139 x6_6
            refine zr_aload_n (pc := 46) hV dX9_countPairs_46 rfl rfl ?_
            refine zr_iload (pc := 47) hV dX9_countPairs_47 rfl ?_
            refine zr_iconst (pc := 49) hV 1 dX9_countPairs_49 rfl ?_
            refine zr_iadd (pc := 50) hV dX9_countPairs_50 ?_
            refine zr_iald (pc := 51) hV dX9_countPairs_51 (zc_k139 zc_s139) (zc_pos zc_s139 rfl) rfl (by omega) ?_
            have t7 := zc_ga139 hσ zc_s139 (x6_6 + 1)
            refine zr_callVp (pc := 52) hV [ZI (σ 139 x6_6), ZI (σ 139 (x6_6 + 1))] (st := []) (c_X9_tellAlike (σ := σ) hσ (σ 139 x6_6) (σ 139 (x6_6 + 1)) (by omega) (by omega)) dX9_countPairs_52 mX9_97 (zc_k3 zc_s3) (zc_pos zc_s3 rfl) (by decide) (Nat.le_of_ble_eq_true rfl) (Nat.le_refl _) (fun r52 hr52 pr52 => ?_)
            refine zr_if_eq (pc := 55) hV 64 dX9_countPairs_55 (by decide) (by omega) (fun c8 => ?_) (fun c8 => ?_)
            · show V 64 [some (ZR 3), some (ZR 139), some (ZI a), some (ZI b), some (ZI end_), some (ZI x5_6), some (ZI x6_6)] [] 284 σ
              refine zr_iinc (pc := 64) hV [some (ZR 3), some (ZR 139), some (ZI a), some (ZI b), some (ZI end_), some (ZI x5_6), some (ZI (x6_6 + 1))] (x6_6 + 1) dX9_countPairs_64 rfl rfl (by decide) rfl rfl ?_
              refine zr_goto (pc := 67) hV 6 dX9_countPairs_67 (by decide) ?_
              exact ih6 x5_6 (x6_6 + 1) (by omega) (by omega) (by omega) (by omega)
            · show V 58 [some (ZR 3), some (ZR 139), some (ZI a), some (ZI b), some (ZI end_), some (ZI x5_6), some (ZI x6_6)] [] 284 σ
              refine zr_iinc (pc := 58) hV [some (ZR 3), some (ZR 139), some (ZI a), some (ZI b), some (ZI end_), some (ZI (x5_6 + 1)), some (ZI x6_6)] (x5_6 + 1) dX9_countPairs_58 rfl rfl (by decide) rfl rfl ?_
              refine zr_iinc (pc := 61) hV [some (ZR 3), some (ZR 139), some (ZI a), some (ZI b), some (ZI end_), some (ZI (x5_6 + 1)), some (ZI (x6_6 + 1))] (x6_6 + 1) dX9_countPairs_61 rfl rfl (by decide) rfl rfl ?_
              show V 64 [some (ZR 3), some (ZR 139), some (ZI a), some (ZI b), some (ZI end_), some (ZI (x5_6 + 1)), some (ZI (x6_6 + 1))] [] 284 σ
              refine zr_iinc (pc := 64) hV [some (ZR 3), some (ZR 139), some (ZI a), some (ZI b), some (ZI end_), some (ZI (x5_6 + 1)), some (ZI (x6_6 + 1 + 1))] (x6_6 + 1 + 1) dX9_countPairs_64 rfl rfl (by decide) rfl rfl ?_
              refine zr_goto (pc := 67) hV 6 dX9_countPairs_67 (by decide) ?_
              exact ih6 (x5_6 + 1) (x6_6 + 1 + 1) (by omega) (by omega) (by omega) (by omega)
  exact L6 (66 - (0 : Int) + 1 : Int).toNat 0 0 (by omega) (by omega) (by omega) (by omega)
set_option maxHeartbeats 800000 in
theorem c_X9_canFollow {σ : zq_S} (hσ : zc_T σ) (a : Int) (ka : zc_kd a = 4) (b : Int) (kb : zc_kd b = 4)  : zq_C zc_w yX9_canFollow cX9_canFollow 2 (some .boolean) 2 41 284 284 [ZR a, ZR b] σ (zq_pp σ (fun r => (0 ≤ r ∧ r ≤ 1))) := by
  refine zq_C_of (by decide) (Nat.le_refl _) (Nat.le_of_ble_eq_true rfl) [some (ZR a), some (ZR b)] rfl (fun V hV => ?_)
  have poa := zc_pos ka rfl
  have pob := zc_pos kb rfl
  show V 0 [some (ZR a), some (ZR b)] [] 284 σ
  refine zr_aload_n (pc := 0) hV dX9_canFollow_0 rfl rfl ?_
  refine zr_getI (pc := 1) hV 4 dX9_canFollow_1 fX9_128 rfl rfl (zc_k4 ka) (zc_pos ka rfl) ?_
  have t1 := zc_g4_4 hσ ka
  refine zr_if_ne (pc := 4) hV 39 dX9_canFollow_4 (by decide) (by omega) (fun c2 => ?_) (fun c2 => ?_)
  · show V 39 [some (ZR a), some (ZR b)] [] 284 σ
    refine zr_iconst (pc := 39) hV 0 dX9_canFollow_39 rfl ?_
    exact zr_zret (pc := 40) hV dX9_canFollow_40 rfl rfl (by omega) ⟨rfl, _, rfl, ⟨by decide, by decide⟩, (by omega)⟩
  · show V 7 [some (ZR a), some (ZR b)] [] 284 σ
    refine zr_aload_n (pc := 7) hV dX9_canFollow_7 rfl rfl ?_
    refine zr_getI (pc := 8) hV 4 dX9_canFollow_8 fX9_128 rfl rfl (zc_k4 kb) (zc_pos kb rfl) ?_
    have t3 := zc_g4_4 hσ kb
    refine zr_if_ne (pc := 11) hV 39 dX9_canFollow_11 (by decide) (by omega) (fun c4 => ?_) (fun c4 => ?_)
    · show V 39 [some (ZR a), some (ZR b)] [] 284 σ
      refine zr_iconst (pc := 39) hV 0 dX9_canFollow_39 rfl ?_
      exact zr_zret (pc := 40) hV dX9_canFollow_40 rfl rfl (by omega) ⟨rfl, _, rfl, ⟨by decide, by decide⟩, (by omega)⟩
    · show V 14 [some (ZR a), some (ZR b)] [] 284 σ
      refine zr_aload_n (pc := 14) hV dX9_canFollow_14 rfl rfl ?_
      refine zr_getI (pc := 15) hV 12 dX9_canFollow_15 fX9_131 rfl rfl (zc_k4 ka) (zc_pos ka rfl) ?_
      have t5 := zc_g4_12 hσ ka
      refine zr_aload_n (pc := 18) hV dX9_canFollow_18 rfl rfl ?_
      refine zr_getI (pc := 19) hV 13 dX9_canFollow_19 fX9_134 rfl rfl (zc_k4 ka) (zc_pos ka rfl) ?_
      have t6 := zc_g4_13 hσ ka
      refine zr_ior (pc := 22) hV dX9_canFollow_22 ?_
      have t7 := zq_or_in (σ a 12) (σ a 13)
      refine zr_aload_n (pc := 23) hV dX9_canFollow_23 rfl rfl ?_
      refine zr_getI (pc := 24) hV 12 dX9_canFollow_24 fX9_131 rfl rfl (zc_k4 kb) (zc_pos kb rfl) ?_
      have t8 := zc_g4_12 hσ kb
      refine zr_ior (pc := 27) hV dX9_canFollow_27 ?_
      have t9 := zq_or_in (zq_or (σ a 12) (σ a 13)) (σ b 12)
      refine zr_aload_n (pc := 28) hV dX9_canFollow_28 rfl rfl ?_
      refine zr_getI (pc := 29) hV 13 dX9_canFollow_29 fX9_134 rfl rfl (zc_k4 kb) (zc_pos kb rfl) ?_
      have t10 := zc_g4_13 hσ kb
      refine zr_ior (pc := 32) hV dX9_canFollow_32 ?_
      have t11 := zq_or_in (zq_or (zq_or (σ a 12) (σ a 13)) (σ b 12)) (σ b 13)
      refine zr_bipush (pc := 33) hV 16 dX9_canFollow_33 (by decide) ?_
      refine zr_iand (pc := 35) hV dX9_canFollow_35 ?_
      have t12 := zq_and_nnR (x := zq_or (zq_or (zq_or (σ a 12) (σ a 13)) (σ b 12)) (σ b 13)) (y := 16) (by omega)
      refine zr_if_eq (pc := 36) hV 41 dX9_canFollow_36 (by decide) (by omega) (fun c13 => ?_) (fun c13 => ?_)
      · show V 41 [some (ZR a), some (ZR b)] [] 284 σ
        refine zr_aload_n (pc := 41) hV dX9_canFollow_41 rfl rfl ?_
        refine zr_getI (pc := 42) hV 6 dX9_canFollow_42 fX9_137 rfl rfl (zc_k4 ka) (zc_pos ka rfl) ?_
        have t14 := zc_g4_6 hσ ka
        refine zr_aload_n (pc := 45) hV dX9_canFollow_45 rfl rfl ?_
        refine zr_getI (pc := 46) hV 6 dX9_canFollow_46 fX9_137 rfl rfl (zc_k4 kb) (zc_pos kb rfl) ?_
        have t15 := zc_g4_6 hσ kb
        refine zr_iadd (pc := 49) hV dX9_canFollow_49 ?_
        refine zr_iconst (pc := 50) hV 3 dX9_canFollow_50 rfl ?_
        refine zr_icmp_gt (pc := 51) hV 68 dX9_canFollow_51 (by decide) (by omega) ⟨by decide, by decide⟩ (fun c16 => ?_) (fun c16 => ?_)
        · show V 68 [some (ZR a), some (ZR b)] [] 284 σ
          refine zr_iconst (pc := 68) hV 0 dX9_canFollow_68 rfl ?_
          exact zr_zret (pc := 69) hV dX9_canFollow_69 rfl rfl (by omega) ⟨rfl, _, rfl, ⟨by decide, by decide⟩, (by omega)⟩
        · show V 54 [some (ZR a), some (ZR b)] [] 284 σ
          refine zr_aload_n (pc := 54) hV dX9_canFollow_54 rfl rfl ?_
          refine zr_getI (pc := 55) hV 11 dX9_canFollow_55 fX9_140 rfl rfl (zc_k4 ka) (zc_pos ka rfl) ?_
          have t17 := zc_g4_11 hσ ka
          refine zr_aload_n (pc := 58) hV dX9_canFollow_58 rfl rfl ?_
          refine zr_getI (pc := 59) hV 11 dX9_canFollow_59 fX9_140 rfl rfl (zc_k4 kb) (zc_pos kb rfl) ?_
          have t18 := zc_g4_11 hσ kb
          refine zr_iadd (pc := 62) hV dX9_canFollow_62 ?_
          refine zr_any (pc := 63) hV (fun y63 hy63 _ => ?_)
          refine zr_bipush (pc := 63) hV 10 dX9_canFollow_63 (by decide) ?_
          refine zr_icmp_le (pc := 65) hV 70 dX9_canFollow_65 (by decide) (by omega) ⟨by decide, by decide⟩ (fun c19 => ?_) (fun c19 => ?_)
          · show V 70 [some (ZR a), some (ZR b)] [] 284 σ
            refine zr_aload_n (pc := 70) hV dX9_canFollow_70 rfl rfl ?_
            refine zr_iconst (pc := 71) hV 3 dX9_canFollow_71 rfl ?_
            refine zr_callVp (pc := 72) hV [ZI 3] (st := []) (c_X3_hasField (σ := σ) hσ a ka 3 (by omega)) dX9_canFollow_72 mX9_104 (zc_k4 ka) (zc_pos ka rfl) (by decide) (Nat.le_of_ble_eq_true rfl) (Nat.le_refl _) (fun r72 hr72 pr72 => ?_)
            refine zr_if_eq (pc := 75) hV 99 dX9_canFollow_75 (by decide) (by omega) (fun c20 => ?_) (fun c20 => ?_)
            · show V 99 [some (ZR a), some (ZR b)] [] 284 σ
              refine zr_iconst (pc := 99) hV 1 dX9_canFollow_99 rfl ?_
              refine zr_goto (pc := 100) hV 104 dX9_canFollow_100 (by decide) ?_
              show V 104 [some (ZR a), some (ZR b)] [ZI 1] 284 σ
              exact zr_zret (pc := 104) hV dX9_canFollow_104 rfl rfl (by omega) ⟨rfl, _, rfl, ⟨by decide, by decide⟩, (by omega)⟩
            · show V 78 [some (ZR a), some (ZR b)] [] 284 σ
              refine zr_aload_n (pc := 78) hV dX9_canFollow_78 rfl rfl ?_
              refine zr_iconst (pc := 79) hV 3 dX9_canFollow_79 rfl ?_
              refine zr_callVp (pc := 80) hV [ZI 3] (st := []) (c_X3_hasField (σ := σ) hσ b kb 3 (by omega)) dX9_canFollow_80 mX9_104 (zc_k4 kb) (zc_pos kb rfl) (by decide) (Nat.le_of_ble_eq_true rfl) (Nat.le_refl _) (fun r80 hr80 pr80 => ?_)
              refine zr_if_eq (pc := 83) hV 99 dX9_canFollow_83 (by decide) (by omega) (fun c21 => ?_) (fun c21 => ?_)
              · show V 99 [some (ZR a), some (ZR b)] [] 284 σ
                refine zr_iconst (pc := 99) hV 1 dX9_canFollow_99 rfl ?_
                refine zr_goto (pc := 100) hV 104 dX9_canFollow_100 (by decide) ?_
                show V 104 [some (ZR a), some (ZR b)] [ZI 1] 284 σ
                exact zr_zret (pc := 104) hV dX9_canFollow_104 rfl rfl (by omega) ⟨rfl, _, rfl, ⟨by decide, by decide⟩, (by omega)⟩
              · show V 86 [some (ZR a), some (ZR b)] [] 284 σ
                refine zr_aload_n (pc := 86) hV dX9_canFollow_86 rfl rfl ?_
                refine zr_iconst (pc := 87) hV 3 dX9_canFollow_87 rfl ?_
                refine zr_callVp (pc := 88) hV [ZI 3] (st := []) (c_X3_fieldBits (σ := σ) hσ a ka 3 (by omega)) dX9_canFollow_88 mX9_143 (zc_k4 ka) (zc_pos ka rfl) (by decide) (Nat.le_of_ble_eq_true rfl) (Nat.le_refl _) (fun r88 hr88 pr88 => ?_)
                refine zr_aload_n (pc := 91) hV dX9_canFollow_91 rfl rfl ?_
                refine zr_iconst (pc := 92) hV 3 dX9_canFollow_92 rfl ?_
                refine zr_callVp (pc := 93) hV [ZI 3] (st := [ZI r88]) (c_X3_fieldBits (σ := σ) hσ b kb 3 (by omega)) dX9_canFollow_93 mX9_143 (zc_k4 kb) (zc_pos kb rfl) (by decide) (Nat.le_of_ble_eq_true rfl) (Nat.le_refl _) (fun r93 hr93 pr93 => ?_)
                refine zr_icmp_ne (pc := 96) hV 103 dX9_canFollow_96 (by decide) (by omega) (by omega) (fun c22 => ?_) (fun c22 => ?_)
                · show V 103 [some (ZR a), some (ZR b)] [] 284 σ
                  refine zr_iconst (pc := 103) hV 0 dX9_canFollow_103 rfl ?_
                  show V 104 [some (ZR a), some (ZR b)] [ZI 0] 284 σ
                  exact zr_zret (pc := 104) hV dX9_canFollow_104 rfl rfl (by omega) ⟨rfl, _, rfl, ⟨by decide, by decide⟩, (by omega)⟩
                · show V 99 [some (ZR a), some (ZR b)] [] 284 σ
                  refine zr_iconst (pc := 99) hV 1 dX9_canFollow_99 rfl ?_
                  refine zr_goto (pc := 100) hV 104 dX9_canFollow_100 (by decide) ?_
                  show V 104 [some (ZR a), some (ZR b)] [ZI 1] 284 σ
                  exact zr_zret (pc := 104) hV dX9_canFollow_104 rfl rfl (by omega) ⟨rfl, _, rfl, ⟨by decide, by decide⟩, (by omega)⟩
          · show V 68 [some (ZR a), some (ZR b)] [] 284 σ
            refine zr_iconst (pc := 68) hV 0 dX9_canFollow_68 rfl ?_
            exact zr_zret (pc := 69) hV dX9_canFollow_69 rfl rfl (by omega) ⟨rfl, _, rfl, ⟨by decide, by decide⟩, (by omega)⟩
      · show V 39 [some (ZR a), some (ZR b)] [] 284 σ
        refine zr_iconst (pc := 39) hV 0 dX9_canFollow_39 rfl ?_
        exact zr_zret (pc := 40) hV dX9_canFollow_40 rfl rfl (by omega) ⟨rfl, _, rfl, ⟨by decide, by decide⟩, (by omega)⟩
set_option maxHeartbeats 800000 in
theorem c_X9_widthOf {σ : zq_S} (hσ : zc_T σ) (a : Int) (ka : zc_kd a = 4) (b : Int) (kb : zc_kd b = 4) (f : Int) (q0 : 0 ≤ f ∧ f ≤ 3) : zq_C zc_w yX9_widthOf cX9_widthOf 3 (some .int) 2 41 284 284 [ZR a, ZR b, ZI f] σ (zq_pp σ (fun r => (0 ≤ r ∧ r ≤ 63))) := by
  refine zq_C_of (by decide) (Nat.le_refl _) (Nat.le_of_ble_eq_true rfl) [some (ZR a), some (ZR b), some (ZI f)] rfl (fun V hV => ?_)
  have poa := zc_pos ka rfl
  have pob := zc_pos kb rfl
  show V 0 [some (ZR a), some (ZR b), some (ZI f)] [] 284 σ
  refine zr_aload_n (pc := 0) hV dX9_widthOf_0 rfl rfl ?_
  refine zr_iload_n (pc := 1) hV dX9_widthOf_1 rfl rfl ?_
  refine zr_callVp (pc := 2) hV [ZI f] (st := []) (c_X3_fieldBits (σ := σ) hσ a ka f (by omega)) dX9_widthOf_2 mX9_143 (zc_k4 ka) (zc_pos ka rfl) (by decide) (Nat.le_of_ble_eq_true rfl) (Nat.le_refl _) (fun r2 hr2 pr2 => ?_)
  refine zr_aload_n (pc := 5) hV dX9_widthOf_5 rfl rfl ?_
  refine zr_iload_n (pc := 6) hV dX9_widthOf_6 rfl rfl ?_
  refine zr_callVp (pc := 7) hV [ZI f] (st := [ZI r2]) (c_X3_fieldBits (σ := σ) hσ b kb f (by omega)) dX9_widthOf_7 mX9_143 (zc_k4 kb) (zc_pos kb rfl) (by decide) (Nat.le_of_ble_eq_true rfl) (Nat.le_refl _) (fun r7 hr7 pr7 => ?_)
  refine zr_max (pc := 10) hV (st := []) dX9_widthOf_10 lX9_146 (by omega) (by omega) (Nat.le_of_ble_eq_true rfl) rfl rfl (fun r10 pr10 qr10 => ?_)
  exact zr_iret (pc := 13) hV dX9_widthOf_13 rfl rfl ⟨rfl, _, rfl, (by omega), (by omega)⟩
set_option maxHeartbeats 800000 in
theorem c_X9_freeBits {σ : zq_S} (hσ : zc_T σ) (a : Int) (ka : zc_kd a = 4) (b : Int) (kb : zc_kd b = 4)  : zq_C zc_w yX9_freeBits cX9_freeBits 4 (some .int) 3 63 284 284 [ZR a, ZR b] σ (zq_pp σ (fun r => (0 ≤ r ∧ r ≤ 252))) := by
  refine zq_C_of (by decide) (Nat.le_refl _) (Nat.le_of_ble_eq_true rfl) [some (ZR a), some (ZR b), none, none] rfl (fun V hV => ?_)
  have poa := zc_pos ka rfl
  have pob := zc_pos kb rfl
  show V 0 [some (ZR a), some (ZR b), none, none] [] 284 σ
  refine zr_iconst (pc := 0) hV 0 dX9_freeBits_0 rfl ?_
  refine zr_istore_n (pc := 1) hV [some (ZR a), some (ZR b), some (ZI 0), none] dX9_freeBits_1 rfl (by decide) rfl rfl ?_
  refine zr_iconst (pc := 2) hV 0 dX9_freeBits_2 rfl ?_
  refine zr_istore_n (pc := 3) hV [some (ZR a), some (ZR b), some (ZI 0), some (ZI 0)] dX9_freeBits_3 rfl (by decide) rfl rfl ?_
  have L4 : ∀ (fuel : Nat) (x2_4 : Int) (x3_4 : Int), (0 ≤ x2_4 ∧ x2_4 ≤ 252) → (0 ≤ x3_4 ∧ x3_4 ≤ 4) → (x2_4 ≤ 63 * x3_4) → 4 - x3_4 < (fuel : Int) → V 4 [some (ZR a), some (ZR b), some (ZI x2_4), some (ZI x3_4)] [] 284 σ := by
    intro fuel
    induction fuel with
    | zero =>
      intro x2_4 x3_4 hx2_4 hx3_4 hi4_0 hm4
      exfalso; omega
    | succ fuel ih =>
      intro x2_4 x3_4 hx2_4 hx3_4 hi4_0 hm4
      have ih4 := ih
      show V 4 [some (ZR a), some (ZR b), some (ZI x2_4), some (ZI x3_4)] [] 284 σ
      refine zr_iload_n (pc := 4) hV dX9_freeBits_4 rfl rfl ?_
      refine zr_iconst (pc := 5) hV 3 dX9_freeBits_5 rfl ?_
      refine zr_icmp_gt (pc := 6) hV 24 dX9_freeBits_6 (by decide) (by omega) ⟨by decide, by decide⟩ (fun c1 => ?_) (fun c1 => ?_)
      · show V 24 [some (ZR a), some (ZR b), some (ZI x2_4), some (ZI x3_4)] [] 284 σ
        refine zr_iload_n (pc := 24) hV dX9_freeBits_24 rfl rfl ?_
        exact zr_iret (pc := 25) hV dX9_freeBits_25 rfl rfl ⟨rfl, _, rfl, (by omega), (by omega)⟩
      · show V 9 [some (ZR a), some (ZR b), some (ZI x2_4), some (ZI x3_4)] [] 284 σ
        refine zr_iload_n (pc := 9) hV dX9_freeBits_9 rfl rfl ?_
        refine zr_aload_n (pc := 10) hV dX9_freeBits_10 rfl rfl ?_
        refine zr_aload_n (pc := 11) hV dX9_freeBits_11 rfl rfl ?_
        refine zr_iload_n (pc := 12) hV dX9_freeBits_12 rfl rfl ?_
        refine zr_callSp (pc := 13) hV [ZR a, ZR b, ZI x3_4] (st := [ZI x2_4]) (c_X9_widthOf (σ := σ) hσ a ka b kb x3_4 (by omega)) dX9_freeBits_13 mX9_149 (by decide) (Nat.le_of_ble_eq_true rfl) (Nat.le_refl _) (fun r13 hr13 pr13 => ?_)
        refine zr_iadd (pc := 16) hV dX9_freeBits_16 ?_
        refine zr_istore_n (pc := 17) hV [some (ZR a), some (ZR b), some (ZI (x2_4 + r13)), some (ZI x3_4)] dX9_freeBits_17 rfl (by decide) rfl rfl ?_
        refine zr_iinc (pc := 18) hV [some (ZR a), some (ZR b), some (ZI (x2_4 + r13)), some (ZI (x3_4 + 1))] (x3_4 + 1) dX9_freeBits_18 rfl rfl (by decide) rfl rfl ?_
        refine zr_goto (pc := 21) hV 4 dX9_freeBits_21 (by decide) ?_
        exact ih4 (x2_4 + r13) (x3_4 + 1) (by omega) (by omega) (by omega) (by omega)
  exact L4 (4 - (0 : Int) + 1 : Int).toNat 0 0 (by omega) (by omega) (by omega) (by omega)
set_option maxHeartbeats 800000 in
theorem c_X9_areHoles {σ : zq_S} (hσ : zc_T σ) (from_ : Int) (block : Int) (q0 : 0 ≤ from_ ∧ from_ ≤ 4095) (q1 : 1 ≤ block ∧ block ≤ 4096) : zq_C zc_w yX9_areHoles cX9_areHoles 4 (some .boolean) 1 21 284 284 [ZR 3, ZI from_, ZI block] σ (zq_pp σ (fun r => (0 ≤ r ∧ r ≤ 1))) := by
  refine zq_C_of (by decide) (Nat.le_refl _) (Nat.le_of_ble_eq_true rfl) [some (ZR 3), some (ZI from_), some (ZI block), none] rfl (fun V hV => ?_)
  show V 0 [some (ZR 3), some (ZI from_), some (ZI block), none] [] 284 σ
  refine zr_iload_n (pc := 0) hV dX9_areHoles_0 rfl rfl ?_
  refine zr_istore_n (pc := 1) hV [some (ZR 3), some (ZI from_), some (ZI block), some (ZI from_)] dX9_areHoles_1 rfl (by decide) rfl rfl ?_
  have L2 : ∀ (fuel : Nat) (x3_2 : Int), (0 ≤ x3_2 ∧ x3_2 ≤ 8191) → 8191 - x3_2 < (fuel : Int) → V 2 [some (ZR 3), some (ZI from_), some (ZI block), some (ZI x3_2)] [] 284 σ := by
    intro fuel
    induction fuel with
    | zero =>
      intro x3_2 hx3_2 hm2
      exfalso; omega
    | succ fuel ih =>
      intro x3_2 hx3_2 hm2
      have ih2 := ih
      show V 2 [some (ZR 3), some (ZI from_), some (ZI block), some (ZI x3_2)] [] 284 σ
      refine zr_iload_n (pc := 2) hV dX9_areHoles_2 rfl rfl ?_
      refine zr_iload_n (pc := 3) hV dX9_areHoles_3 rfl rfl ?_
      refine zr_iload_n (pc := 4) hV dX9_areHoles_4 rfl rfl ?_
      refine zr_iadd (pc := 5) hV dX9_areHoles_5 ?_
      refine zr_icmp_ge (pc := 6) hV 26 dX9_areHoles_6 (by decide) (by omega) (by omega) (fun c1 => ?_) (fun c1 => ?_)
      · show V 26 [some (ZR 3), some (ZI from_), some (ZI block), some (ZI x3_2)] [] 284 σ
        refine zr_iconst (pc := 26) hV 1 dX9_areHoles_26 rfl ?_
        exact zr_zret (pc := 27) hV dX9_areHoles_27 rfl rfl (by omega) ⟨rfl, _, rfl, ⟨by decide, by decide⟩, (by omega)⟩
      · show V 9 [some (ZR 3), some (ZI from_), some (ZI block), some (ZI x3_2)] [] 284 σ
        refine zr_aload_n (pc := 9) hV dX9_areHoles_9 rfl rfl ?_
        refine zr_iload_n (pc := 10) hV dX9_areHoles_10 rfl rfl ?_
        refine zr_callVp (pc := 11) hV [ZI x3_2] (st := []) (c_X9_numberOf (σ := σ) hσ x3_2 (by omega)) dX9_areHoles_11 mX9_52 (zc_k3 zc_s3) (zc_pos zc_s3 rfl) (by decide) (Nat.le_of_ble_eq_true rfl) (Nat.le_refl _) (fun r11 hr11 pr11 => ?_)
        refine zr_iconst (pc := 14) hV (-1) dX9_areHoles_14 rfl ?_
        refine zr_icmp_eq (pc := 15) hV 20 dX9_areHoles_15 (by decide) (by omega) ⟨by decide, by decide⟩ (fun c2 => ?_) (fun c2 => ?_)
        · show V 20 [some (ZR 3), some (ZI from_), some (ZI block), some (ZI x3_2)] [] 284 σ
          refine zr_iinc (pc := 20) hV [some (ZR 3), some (ZI from_), some (ZI block), some (ZI (x3_2 + 1))] (x3_2 + 1) dX9_areHoles_20 rfl rfl (by decide) rfl rfl ?_
          refine zr_goto (pc := 23) hV 2 dX9_areHoles_23 (by decide) ?_
          exact ih2 (x3_2 + 1) (by omega) (by omega)
        · show V 18 [some (ZR 3), some (ZI from_), some (ZI block), some (ZI x3_2)] [] 284 σ
          refine zr_iconst (pc := 18) hV 0 dX9_areHoles_18 rfl ?_
          exact zr_zret (pc := 19) hV dX9_areHoles_19 rfl rfl (by omega) ⟨rfl, _, rfl, ⟨by decide, by decide⟩, (by omega)⟩
  exact L2 (8191 - from_ + 1 : Int).toNat from_ (by omega) (by omega)
set_option maxHeartbeats 800000 in
theorem c_X9_roomFor {σ : zq_S} (hσ : zc_T σ) (a : Int) (ka : zc_kd a = 4) (b : Int) (kb : zc_kd b = 4)  : zq_C zc_w yX9_roomFor cX9_roomFor 6 (some .int) 4 86 284 284 [ZR 3, ZR a, ZR b] σ (zq_pp σ (fun r => ((-2) ≤ r ∧ r ≤ 4095))) := by
  refine zq_C_of (by decide) (Nat.le_refl _) (Nat.le_of_ble_eq_true rfl) [some (ZR 3), some (ZR a), some (ZR b), none, none, none] rfl (fun V hV => ?_)
  have poa := zc_pos ka rfl
  have pob := zc_pos kb rfl
  show V 0 [some (ZR 3), some (ZR a), some (ZR b), none, none, none] [] 284 σ
  refine zr_aload_n (pc := 0) hV dX9_roomFor_0 rfl rfl ?_
  refine zr_aload_n (pc := 1) hV dX9_roomFor_1 rfl rfl ?_
  refine zr_callSp (pc := 2) hV [ZR a, ZR b] (st := []) (c_X9_freeBits (σ := σ) hσ a ka b kb) dX9_roomFor_2 mX9_118 (by decide) (Nat.le_of_ble_eq_true rfl) (Nat.le_refl _) (fun r2 hr2 pr2 => ?_)
  refine zr_istore_n (pc := 5) hV [some (ZR 3), some (ZR a), some (ZR b), some (ZI r2), none, none] dX9_roomFor_5 rfl (by decide) rfl rfl ?_
  refine zr_iload_n (pc := 6) hV dX9_roomFor_6 rfl rfl ?_
  refine zr_aload_n (pc := 7) hV dX9_roomFor_7 rfl rfl ?_
  refine zr_getI (pc := 8) hV 2 dX9_roomFor_8 fX9_33 rfl rfl (zc_k3 zc_s3) (zc_pos zc_s3 rfl) ?_
  have t1 := zc_g3_2 hσ zc_s3
  refine zr_icmp_ge (pc := 11) hV 22 dX9_roomFor_11 (by decide) (by omega) (by omega) (fun c2 => ?_) (fun c2 => ?_)
  · show V 22 [some (ZR 3), some (ZR a), some (ZR b), some (ZI r2), none, none] [] 284 σ
    refine zr_bipush (pc := 22) hV (-2) dX9_roomFor_22 (by decide) ?_
    exact zr_iret (pc := 24) hV dX9_roomFor_24 rfl rfl ⟨rfl, _, rfl, ⟨by decide, by decide⟩, (by omega)⟩
  · show V 14 [some (ZR 3), some (ZR a), some (ZR b), some (ZI r2), none, none] [] 284 σ
    refine zr_aload_n (pc := 14) hV dX9_roomFor_14 rfl rfl ?_
    refine zr_aload_n (pc := 15) hV dX9_roomFor_15 rfl rfl ?_
    refine zr_callSp (pc := 16) hV [ZR a, ZR b] (st := []) (c_X9_canFollow (σ := σ) hσ a ka b kb) dX9_roomFor_16 mX9_121 (by decide) (Nat.le_of_ble_eq_true rfl) (Nat.le_refl _) (fun r16 hr16 pr16 => ?_)
    refine zr_if_ne (pc := 19) hV 25 dX9_roomFor_19 (by decide) (by omega) (fun c3 => ?_) (fun c3 => ?_)
    · show V 25 [some (ZR 3), some (ZR a), some (ZR b), some (ZI r2), none, none] [] 284 σ
      refine zr_iconst (pc := 25) hV 1 dX9_roomFor_25 rfl ?_
      refine zr_iload_n (pc := 26) hV dX9_roomFor_26 rfl rfl ?_
      refine zr_ishl (pc := 27) hV dX9_roomFor_27 ?_
      have t4 := zx_shl_one (y := r2) 11 2048 (by decide) (by decide) (by omega)
      refine zr_istore (pc := 28) hV [some (ZR 3), some (ZR a), some (ZR b), some (ZI r2), some (ZI (zq_shl 1 r2)), none] dX9_roomFor_28 (by decide) rfl rfl ?_
      refine zr_iconst (pc := 30) hV 0 dX9_roomFor_30 rfl ?_
      refine zr_istore (pc := 31) hV [some (ZR 3), some (ZR a), some (ZR b), some (ZI r2), some (ZI (zq_shl 1 r2)), some (ZI 0)] dX9_roomFor_31 (by decide) rfl rfl ?_
      have L33 : ∀ (fuel : Nat) (x5_33 : Int), (0 ≤ x5_33 ∧ x5_33 ≤ 8191) → 8192 - x5_33 < (fuel : Int) → V 33 [some (ZR 3), none, none, none, some (ZI (zq_shl 1 r2)), some (ZI x5_33)] [] 284 σ := by
        intro fuel
        induction fuel with
        | zero =>
          intro x5_33 hx5_33 hm33
          exfalso; omega
        | succ fuel ih =>
          intro x5_33 hx5_33 hm33
          have ih33 := ih
          show V 33 [some (ZR 3), none, none, none, some (ZI (zq_shl 1 r2)), some (ZI x5_33)] [] 284 σ
          refine zr_iload (pc := 33) hV dX9_roomFor_33 rfl ?_
          refine zr_aload_n (pc := 35) hV dX9_roomFor_35 rfl rfl ?_
          refine zr_callVp (pc := 36) hV [] (st := [ZI x5_33]) (c_X9_bitsInAll (σ := σ) hσ) dX9_roomFor_36 mX9_48 (zc_k3 zc_s3) (zc_pos zc_s3 rfl) (by decide) (Nat.le_of_ble_eq_true rfl) (Nat.le_refl _) (fun r36 hr36 pr36 => ?_)
          refine zr_icmp_ge (pc := 39) hV 66 dX9_roomFor_39 (by decide) (by omega) (by omega) (fun c5 => ?_) (fun c5 => ?_)
          · show V 66 [some (ZR 3), none, none, none, some (ZI (zq_shl 1 r2)), some (ZI x5_33)] [] 284 σ
            refine zr_bipush (pc := 66) hV (-2) dX9_roomFor_66 (by decide) ?_
            exact zr_iret (pc := 68) hV dX9_roomFor_68 rfl rfl ⟨rfl, _, rfl, ⟨by decide, by decide⟩, (by omega)⟩
          · show V 42 [some (ZR 3), none, none, none, some (ZI (zq_shl 1 r2)), some (ZI x5_33)] [] 284 σ
            refine zr_aload_n (pc := 42) hV dX9_roomFor_42 rfl rfl ?_
            refine zr_iload (pc := 43) hV dX9_roomFor_43 rfl ?_
            refine zr_iload (pc := 45) hV dX9_roomFor_45 rfl ?_
            refine zr_callVp (pc := 47) hV [ZI x5_33, ZI (zq_shl 1 r2)] (st := []) (c_X9_areHoles (σ := σ) hσ x5_33 (zq_shl 1 r2) (by omega) (by omega)) dX9_roomFor_47 mX9_125 (zc_k3 zc_s3) (zc_pos zc_s3 rfl) (by decide) (Nat.le_of_ble_eq_true rfl) (Nat.le_refl _) (fun r47 hr47 pr47 => ?_)
            refine zr_if_eq (pc := 50) hV 56 dX9_roomFor_50 (by decide) (by omega) (fun c6 => ?_) (fun c6 => ?_)
            · show V 56 [some (ZR 3), none, none, none, some (ZI (zq_shl 1 r2)), some (ZI x5_33)] [] 284 σ
              refine zr_iload (pc := 56) hV dX9_roomFor_56 rfl ?_
              refine zr_iload (pc := 58) hV dX9_roomFor_58 rfl ?_
              refine zr_iadd (pc := 60) hV dX9_roomFor_60 ?_
              refine zr_istore (pc := 61) hV [some (ZR 3), none, none, none, some (ZI (zq_shl 1 r2)), some (ZI (x5_33 + (zq_shl 1 r2)))] dX9_roomFor_61 (by decide) rfl rfl ?_
              refine zr_goto (pc := 63) hV 33 dX9_roomFor_63 (by decide) ?_
              exact ih33 (x5_33 + (zq_shl 1 r2)) (by omega) (by omega)
            · show V 53 [some (ZR 3), none, none, none, some (ZI (zq_shl 1 r2)), some (ZI x5_33)] [] 284 σ
              refine zr_iload (pc := 53) hV dX9_roomFor_53 rfl ?_
              exact zr_iret (pc := 55) hV dX9_roomFor_55 rfl rfl ⟨rfl, _, rfl, (by omega), (by omega)⟩
      refine zr_sub (pc := 33) hV [some (ZR 3), none, none, none, some (ZI (zq_shl 1 r2)), some (ZI 0)] (⟨rfl, rfl, rfl, trivial⟩) ?_
      exact L33 (8192 - (0 : Int) + 1 : Int).toNat 0 (by omega) (by omega)
    · show V 22 [some (ZR 3), some (ZR a), some (ZR b), some (ZI r2), none, none] [] 284 σ
      refine zr_bipush (pc := 22) hV (-2) dX9_roomFor_22 (by decide) ?_
      exact zr_iret (pc := 24) hV dX9_roomFor_24 rfl rfl ⟨rfl, _, rfl, ⟨by decide, by decide⟩, (by omega)⟩
set_option maxHeartbeats 800000 in
theorem c_X9_bestPair {σ : zq_S} (hσ : zc_T σ) (end_ : Int) (q0 : 0 ≤ end_ ∧ end_ ≤ 64) : zq_C zc_w yX9_bestPair cX9_bestPair 8 (some .int) 5 111 284 284 [ZR 3, ZR 139, ZI end_] σ (zq_pp σ (fun r => True)) := by
  refine zq_C_of (by decide) (Nat.le_refl _) (Nat.le_of_ble_eq_true rfl) [some (ZR 3), some (ZR 139), some (ZI end_), none, none, none, none, none] rfl (fun V hV => ?_)
  show V 0 [some (ZR 3), some (ZR 139), some (ZI end_), none, none, none, none, none] [] 284 σ
  refine zr_bipush (pc := 0) hV (-4) dX9_bestPair_0 (by decide) ?_
  refine zr_istore_n (pc := 2) hV [some (ZR 3), some (ZR 139), some (ZI end_), some (ZI (-4)), none, none, none, none] dX9_bestPair_2 rfl (by decide) rfl rfl ?_
  refine zr_iconst (pc := 3) hV 0 dX9_bestPair_3 rfl ?_
  refine zr_istore (pc := 4) hV [some (ZR 3), some (ZR 139), some (ZI end_), some (ZI (-4)), some (ZI 0), none, none, none] dX9_bestPair_4 (by decide) rfl rfl ?_
  refine zr_iconst (pc := 6) hV 0 dX9_bestPair_6 rfl ?_
  refine zr_istore (pc := 7) hV [some (ZR 3), some (ZR 139), some (ZI end_), some (ZI (-4)), some (ZI 0), some (ZI 0), none, none] dX9_bestPair_7 (by decide) rfl rfl ?_
  have L9 : ∀ (fuel : Nat) (x3_9 : Int) (x4_9 : Int) (x5_9 : Int), ((-4) ≤ x3_9 ∧ x3_9 ≤ 2147483647) → (0 ≤ x4_9 ∧ x4_9 ≤ 2147483647) → (0 ≤ x5_9 ∧ x5_9 ≤ 20) → 20 - x5_9 < (fuel : Int) → V 9 [some (ZR 3), some (ZR 139), some (ZI end_), some (ZI x3_9), some (ZI x4_9), some (ZI x5_9), none, none] [] 284 σ := by
    intro fuel
    induction fuel with
    | zero =>
      intro x3_9 x4_9 x5_9 hx3_9 hx4_9 hx5_9 hm9
      exfalso; omega
    | succ fuel ih =>
      intro x3_9 x4_9 x5_9 hx3_9 hx4_9 hx5_9 hm9
      have ih9 := ih
      show V 9 [some (ZR 3), some (ZR 139), some (ZI end_), some (ZI x3_9), some (ZI x4_9), some (ZI x5_9), none, none] [] 284 σ
      refine zr_iload (pc := 9) hV dX9_bestPair_9 rfl ?_
      refine zr_aload_n (pc := 11) hV dX9_bestPair_11 rfl rfl ?_
      refine zr_getI (pc := 12) hV 3 dX9_bestPair_12 fX9_36 rfl rfl (zc_k3 zc_s3) (zc_pos zc_s3 rfl) ?_
      have t1 := zc_g3_3 hσ zc_s3
      refine zr_icmp_ge (pc := 15) hV 95 dX9_bestPair_15 (by decide) (by omega) (by omega) (fun c2 => ?_) (fun c2 => ?_)
      · show V 95 [some (ZR 3), some (ZR 139), some (ZI end_), some (ZI x3_9), some (ZI x4_9), some (ZI x5_9), none, none] [] 284 σ
        refine zr_iload_n (pc := 95) hV dX9_bestPair_95 rfl rfl ?_
        exact zr_iret (pc := 96) hV dX9_bestPair_96 rfl rfl ⟨rfl, _, rfl, (by omega), trivial⟩
      · show V 18 [some (ZR 3), some (ZR 139), some (ZI end_), some (ZI x3_9), some (ZI x4_9), some (ZI x5_9), none, none] [] 284 σ
        refine zr_iconst (pc := 18) hV 0 dX9_bestPair_18 rfl ?_
        refine zr_istore (pc := 19) hV [some (ZR 3), some (ZR 139), some (ZI end_), some (ZI x3_9), some (ZI x4_9), some (ZI x5_9), some (ZI 0), none] dX9_bestPair_19 (by decide) rfl rfl ?_
        have L21 : ∀ (fuel : Nat) (x3_21 : Int) (x4_21 : Int) (x6_21 : Int), ((-4) ≤ x3_21 ∧ x3_21 ≤ 2147483647) → (0 ≤ x4_21 ∧ x4_21 ≤ 2147483647) → (0 ≤ x6_21 ∧ x6_21 ≤ 20) → 20 - x6_21 < (fuel : Int) → V 21 [some (ZR 3), some (ZR 139), some (ZI end_), some (ZI x3_21), some (ZI x4_21), some (ZI x5_9), some (ZI x6_21), none] [] 284 σ := by
          intro fuel
          induction fuel with
          | zero =>
            intro x3_21 x4_21 x6_21 hx3_21 hx4_21 hx6_21 hm21
            exfalso; omega
          | succ fuel ih =>
            intro x3_21 x4_21 x6_21 hx3_21 hx4_21 hx6_21 hm21
            have ih21 := ih
            show V 21 [some (ZR 3), some (ZR 139), some (ZI end_), some (ZI x3_21), some (ZI x4_21), some (ZI x5_9), some (ZI x6_21), none] [] 284 σ
            refine zr_iload (pc := 21) hV dX9_bestPair_21 rfl ?_
            refine zr_aload_n (pc := 23) hV dX9_bestPair_23 rfl rfl ?_
            refine zr_getI (pc := 24) hV 3 dX9_bestPair_24 fX9_36 rfl rfl (zc_k3 zc_s3) (zc_pos zc_s3 rfl) ?_
            have t3 := zc_g3_3 hσ zc_s3
            refine zr_icmp_ge (pc := 27) hV 89 dX9_bestPair_27 (by decide) (by omega) (by omega) (fun c4 => ?_) (fun c4 => ?_)
            · show V 89 [some (ZR 3), some (ZR 139), some (ZI end_), some (ZI x3_21), some (ZI x4_21), some (ZI x5_9), some (ZI x6_21), none] [] 284 σ
              refine zr_iinc (pc := 89) hV [some (ZR 3), some (ZR 139), some (ZI end_), some (ZI x3_21), some (ZI x4_21), some (ZI (x5_9 + 1)), some (ZI x6_21), none] (x5_9 + 1) dX9_bestPair_89 rfl rfl (by decide) rfl rfl ?_
              refine zr_goto (pc := 92) hV 9 dX9_bestPair_92 (by decide) ?_
              refine zr_sub (pc := 9) hV [some (ZR 3), some (ZR 139), some (ZI end_), some (ZI x3_21), some (ZI x4_21), some (ZI (x5_9 + 1)), none, none] (⟨rfl, rfl, rfl, rfl, rfl, rfl, trivial⟩) ?_
              exact ih9 x3_21 x4_21 (x5_9 + 1) (by omega) (by omega) (by omega) (by omega)
            · show V 30 [some (ZR 3), some (ZR 139), some (ZI end_), some (ZI x3_21), some (ZI x4_21), some (ZI x5_9), some (ZI x6_21), none] [] 284 σ
              refine zr_aload_n (pc := 30) hV dX9_bestPair_30 rfl rfl ?_
              refine zr_aload_n (pc := 31) hV dX9_bestPair_31 rfl rfl ?_
              refine zr_iload (pc := 32) hV dX9_bestPair_32 rfl ?_
              refine zr_iload (pc := 34) hV dX9_bestPair_34 rfl ?_
              refine zr_iload_n (pc := 36) hV dX9_bestPair_36 rfl rfl ?_
              refine zr_callVp (pc := 37) hV [ZR 139, ZI x5_9, ZI x6_21, ZI end_] (st := []) (c_X9_countPairs (σ := σ) hσ x5_9 x6_21 end_ (by omega) (by omega) (by omega)) dX9_bestPair_37 mX9_110 (zc_k3 zc_s3) (zc_pos zc_s3 rfl) (by decide) (Nat.le_of_ble_eq_true rfl) (Nat.le_refl _) (fun r37 hr37 pr37 => ?_)
              refine zr_istore (pc := 40) hV [some (ZR 3), some (ZR 139), some (ZI end_), some (ZI x3_21), some (ZI x4_21), some (ZI x5_9), some (ZI x6_21), some (ZI r37)] dX9_bestPair_40 (by decide) rfl rfl ?_
              refine zr_iload (pc := 42) hV dX9_bestPair_42 rfl ?_
              refine zr_iload (pc := 44) hV dX9_bestPair_44 rfl ?_
              refine zr_icmp_le (pc := 46) hV 83 dX9_bestPair_46 (by decide) (by omega) (by omega) (fun c5 => ?_) (fun c5 => ?_)
              · show V 83 [some (ZR 3), some (ZR 139), some (ZI end_), some (ZI x3_21), some (ZI x4_21), some (ZI x5_9), some (ZI x6_21), some (ZI r37)] [] 284 σ
                refine zr_iinc (pc := 83) hV [some (ZR 3), some (ZR 139), some (ZI end_), some (ZI x3_21), some (ZI x4_21), some (ZI x5_9), some (ZI (x6_21 + 1)), some (ZI r37)] (x6_21 + 1) dX9_bestPair_83 rfl rfl (by decide) rfl rfl ?_
                refine zr_goto (pc := 86) hV 21 dX9_bestPair_86 (by decide) ?_
                refine zr_sub (pc := 21) hV [some (ZR 3), some (ZR 139), some (ZI end_), some (ZI x3_21), some (ZI x4_21), some (ZI x5_9), some (ZI (x6_21 + 1)), none] (⟨rfl, rfl, rfl, rfl, rfl, rfl, rfl, trivial⟩) ?_
                exact ih21 x3_21 x4_21 (x6_21 + 1) (by omega) (by omega) (by omega) (by omega)
              · show V 49 [some (ZR 3), some (ZR 139), some (ZI end_), some (ZI x3_21), some (ZI x4_21), some (ZI x5_9), some (ZI x6_21), some (ZI r37)] [] 284 σ
                refine zr_aload_n (pc := 49) hV dX9_bestPair_49 rfl rfl ?_
                refine zr_aload_n (pc := 50) hV dX9_bestPair_50 rfl rfl ?_
                refine zr_getR (pc := 51) hV 6 10 dX9_bestPair_51 fX9_18 rfl rfl (zc_k3 zc_s3) (zc_pos zc_s3 rfl) (zc_g3_6 hσ zc_s3) (by decide) ?_
                refine zr_iload (pc := 54) hV dX9_bestPair_54 rfl ?_
                have ga56 : zc_kd (σ 10 x5_9) = 4 := zc_ga10 hσ zc_s10 x5_9 (by omega) (by omega)
                refine zr_aald (pc := 56) hV dX9_bestPair_56 (zc_k10 zc_s10) (Or.inl rfl) (zc_pos zc_s10 rfl) rfl (by omega) (zc_pos ga56 rfl).1 ?_
                obtain ⟨o56, eo56⟩ : ∃ o, σ 10 x5_9 = o := ⟨_, rfl⟩
                rw [eo56] at ga56 ⊢
                have ko56 := ga56
                have po56 := zc_pos ko56 rfl
                show V 57 [some (ZR 3), some (ZR 139), some (ZI end_), some (ZI x3_21), some (ZI x4_21), some (ZI x5_9), some (ZI x6_21), some (ZI r37)] [ZR o56, ZR 3] 284 σ
                refine zr_aload_n (pc := 57) hV dX9_bestPair_57 rfl rfl ?_
                refine zr_getR (pc := 58) hV 6 10 dX9_bestPair_58 fX9_18 rfl rfl (zc_k3 zc_s3) (zc_pos zc_s3 rfl) (zc_g3_6 hσ zc_s3) (by decide) ?_
                refine zr_iload (pc := 61) hV dX9_bestPair_61 rfl ?_
                have ga63 : zc_kd (σ 10 x6_21) = 4 := zc_ga10 hσ zc_s10 x6_21 (by omega) (by omega)
                refine zr_aald (pc := 63) hV dX9_bestPair_63 (zc_k10 zc_s10) (Or.inl rfl) (zc_pos zc_s10 rfl) rfl (by omega) (zc_pos ga63 rfl).1 ?_
                obtain ⟨o63, eo63⟩ : ∃ o, σ 10 x6_21 = o := ⟨_, rfl⟩
                rw [eo63] at ga63 ⊢
                have ko63 := ga63
                have po63 := zc_pos ko63 rfl
                show V 64 [some (ZR 3), some (ZR 139), some (ZI end_), some (ZI x3_21), some (ZI x4_21), some (ZI x5_9), some (ZI x6_21), some (ZI r37)] [ZR o63, ZR o56, ZR 3] 284 σ
                refine zr_callVp (pc := 64) hV [ZR o56, ZR o63] (st := []) (c_X9_roomFor (σ := σ) hσ o56 ko56 o63 ko63) dX9_bestPair_64 mX9_114 (zc_k3 zc_s3) (zc_pos zc_s3 rfl) (by decide) (Nat.le_of_ble_eq_true rfl) (Nat.le_refl _) (fun r64 hr64 pr64 => ?_)
                refine zr_if_lt (pc := 67) hV 83 dX9_bestPair_67 (by decide) (by omega) (fun c6 => ?_) (fun c6 => ?_)
                · show V 83 [some (ZR 3), some (ZR 139), some (ZI end_), some (ZI x3_21), some (ZI x4_21), some (ZI x5_9), some (ZI x6_21), some (ZI r37)] [] 284 σ
                  refine zr_iinc (pc := 83) hV [some (ZR 3), some (ZR 139), some (ZI end_), some (ZI x3_21), some (ZI x4_21), some (ZI x5_9), some (ZI (x6_21 + 1)), some (ZI r37)] (x6_21 + 1) dX9_bestPair_83 rfl rfl (by decide) rfl rfl ?_
                  refine zr_goto (pc := 86) hV 21 dX9_bestPair_86 (by decide) ?_
                  refine zr_sub (pc := 21) hV [some (ZR 3), some (ZR 139), some (ZI end_), some (ZI x3_21), some (ZI x4_21), some (ZI x5_9), some (ZI (x6_21 + 1)), none] (⟨rfl, rfl, rfl, rfl, rfl, rfl, rfl, trivial⟩) ?_
                  exact ih21 x3_21 x4_21 (x6_21 + 1) (by omega) (by omega) (by omega) (by omega)
                · show V 70 [some (ZR 3), some (ZR 139), some (ZI end_), some (ZI x3_21), some (ZI x4_21), some (ZI x5_9), some (ZI x6_21), some (ZI r37)] [] 284 σ
                  refine zr_iload (pc := 70) hV dX9_bestPair_70 rfl ?_
                  refine zr_istore (pc := 72) hV [some (ZR 3), some (ZR 139), some (ZI end_), some (ZI x3_21), some (ZI r37), some (ZI x5_9), some (ZI x6_21), some (ZI r37)] dX9_bestPair_72 (by decide) rfl rfl ?_
                  refine zr_bipush (pc := 74) hV 20 dX9_bestPair_74 (by decide) ?_
                  refine zr_iload (pc := 76) hV dX9_bestPair_76 rfl ?_
                  refine zr_imul (pc := 78) hV dX9_bestPair_78 ?_
                  refine zr_iload (pc := 79) hV dX9_bestPair_79 rfl ?_
                  refine zr_iadd (pc := 81) hV dX9_bestPair_81 ?_
                  refine zr_istore_n (pc := 82) hV [some (ZR 3), some (ZR 139), some (ZI end_), some (ZI ((20 * x5_9) + x6_21)), some (ZI r37), some (ZI x5_9), some (ZI x6_21), some (ZI r37)] dX9_bestPair_82 rfl (by decide) rfl rfl ?_
                  show V 83 [some (ZR 3), some (ZR 139), some (ZI end_), some (ZI ((20 * x5_9) + x6_21)), some (ZI r37), some (ZI x5_9), some (ZI x6_21), some (ZI r37)] [] 284 σ
                  refine zr_iinc (pc := 83) hV [some (ZR 3), some (ZR 139), some (ZI end_), some (ZI ((20 * x5_9) + x6_21)), some (ZI r37), some (ZI x5_9), some (ZI (x6_21 + 1)), some (ZI r37)] (x6_21 + 1) dX9_bestPair_83 rfl rfl (by decide) rfl rfl ?_
                  refine zr_goto (pc := 86) hV 21 dX9_bestPair_86 (by decide) ?_
                  refine zr_sub (pc := 21) hV [some (ZR 3), some (ZR 139), some (ZI end_), some (ZI ((20 * x5_9) + x6_21)), some (ZI r37), some (ZI x5_9), some (ZI (x6_21 + 1)), none] (⟨rfl, rfl, rfl, rfl, rfl, rfl, rfl, trivial⟩) ?_
                  exact ih21 ((20 * x5_9) + x6_21) r37 (x6_21 + 1) (by omega) (by omega) (by omega) (by omega)
        exact L21 (20 - (0 : Int) + 1 : Int).toNat x3_9 x4_9 0 (by omega) (by omega) (by omega) (by omega)
  exact L9 (20 - (0 : Int) + 1 : Int).toNat (-4) 0 0 (by omega) (by omega) (by omega) (by omega)
