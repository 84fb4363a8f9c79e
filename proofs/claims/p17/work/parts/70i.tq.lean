set_option maxHeartbeats 800000 in
theorem c_X3_fieldLetters_2 {σ : zq_S} (hσ : zc_T σ) (this : Int) (kthis : zc_kd this = 4)  : zq_C zc_w yX3_fieldLetters cX3_fieldLetters 3 (some .int) 1 21 284 284 [ZR this] σ (zq_pp σ (fun r => r = zu_fl (σ (this + 1)) 4)) := by
  refine zq_C_of (by decide) (Nat.le_refl _) (Nat.le_of_ble_eq_true rfl) [some (ZR this), none, none] rfl (fun V hV => ?_)
  have pothis := zc_pos kthis rfl
  show V 0 [some (ZR this), none, none] [] 284 σ
  refine zr_iconst (pc := 0) hV 0 dX3_fieldLetters_0 rfl ?_
  refine zr_istore_n (pc := 1) hV [some (ZR this), some (ZI 0), none] dX3_fieldLetters_1 rfl (by decide) rfl rfl ?_
  refine zr_iconst (pc := 2) hV 0 dX3_fieldLetters_2 rfl ?_
  refine zr_istore_n (pc := 3) hV [some (ZR this), some (ZI 0), some (ZI 0)] dX3_fieldLetters_3 rfl (by decide) rfl rfl ?_
  have L4 : ∀ (fuel : Nat) (x1_4 : Int) (x2_4 : Int), ((-2147483648) ≤ x1_4 ∧ x1_4 ≤ 2147483647) → (0 ≤ x2_4 ∧ x2_4 ≤ 4) → (x1_4 = zu_fl (σ (this + 1)) x2_4) → 4 - x2_4 < (fuel : Int) → V 4 [some (ZR this), some (ZI x1_4), some (ZI x2_4)] [] 284 σ := by
    intro fuel
    induction fuel with
    | zero =>
      intro x1_4 x2_4 hx1_4 hx2_4 hi4_0 hm4
      exfalso; omega
    | succ fuel ih =>
      intro x1_4 x2_4 hx1_4 hx2_4 hi4_0 hm4
      have ih4 := ih
      show V 4 [some (ZR this), some (ZI x1_4), some (ZI x2_4)] [] 284 σ
      refine zr_iload_n (pc := 4) hV dX3_fieldLetters_4 rfl rfl ?_
      refine zr_iconst (pc := 5) hV 3 dX3_fieldLetters_5 rfl ?_
      refine zr_icmp_gt (pc := 6) hV 33 dX3_fieldLetters_6 (by decide) (by omega) ⟨by decide, by decide⟩ (fun c1 => ?_) (fun c1 => ?_)
      · show V 33 [some (ZR this), some (ZI x1_4), some (ZI x2_4)] [] 284 σ
        refine zr_iload_n (pc := 33) hV dX3_fieldLetters_33 rfl rfl ?_
        exact zr_iret (pc := 34) hV dX3_fieldLetters_34 rfl rfl ⟨rfl, _, rfl, (by omega), (by rw [show (4 : Int) = x2_4 by omega]; exact hi4_0)⟩
      · show V 9 [some (ZR this), some (ZI x1_4), some (ZI x2_4)] [] 284 σ
        refine zr_iload_n (pc := 9) hV dX3_fieldLetters_9 rfl rfl ?_
        refine zr_aload_n (pc := 10) hV dX3_fieldLetters_10 rfl rfl ?_
        refine zr_iload_n (pc := 11) hV dX3_fieldLetters_11 rfl rfl ?_
        refine zr_callVp (pc := 12) hV [ZI x2_4] (st := [ZI x1_4]) (c_X3_hasField_2 (σ := σ) hσ this kthis x2_4 (by omega)) dX3_fieldLetters_12 mX3_83 (zc_k4 kthis) (zc_pos kthis rfl) (by decide) (Nat.le_of_ble_eq_true rfl) (Nat.le_refl _) (fun r12 hr12 pr12 => ?_)
        refine zr_if_eq (pc := 15) hV 24 dX3_fieldLetters_15 (by decide) (by omega) (fun c2 => ?_) (fun c2 => ?_)
        · show V 24 [some (ZR this), some (ZI x1_4), some (ZI x2_4)] [ZI x1_4] 284 σ
          refine zr_iconst (pc := 24) hV 0 dX3_fieldLetters_24 rfl ?_
          show V 25 [some (ZR this), some (ZI x1_4), some (ZI x2_4)] [ZI 0, ZI x1_4] 284 σ
          refine zr_ior (pc := 25) hV dX3_fieldLetters_25 ?_
          have t3 := zq_or_in x1_4 0
          refine zr_istore_n (pc := 26) hV [some (ZR this), some (ZI (zq_or x1_4 0)), some (ZI x2_4)] dX3_fieldLetters_26 rfl (by decide) rfl rfl ?_
          refine zr_iinc (pc := 27) hV [some (ZR this), some (ZI (zq_or x1_4 0)), some (ZI (x2_4 + 1))] (x2_4 + 1) dX3_fieldLetters_27 rfl rfl (by decide) rfl rfl ?_
          refine zr_goto (pc := 30) hV 4 dX3_fieldLetters_30 (by decide) ?_
          exact ih4 (zq_or x1_4 0) (x2_4 + 1) (by omega) (by omega) (by rw [(zu_fl_s (σ (this + 1)) (n := x2_4) (by omega)).2 (by omega), ← hi4_0]) (by omega)
        · show V 18 [some (ZR this), some (ZI x1_4), some (ZI x2_4)] [ZI x1_4] 284 σ
          refine zr_iconst (pc := 18) hV 1 dX3_fieldLetters_18 rfl ?_
          refine zr_iload_n (pc := 19) hV dX3_fieldLetters_19 rfl rfl ?_
          refine zr_ishl (pc := 20) hV dX3_fieldLetters_20 ?_
          have t4 := zx_shl_one (y := x2_4) 3 8 (by decide) (by decide) (by omega)
          refine zr_goto (pc := 21) hV 25 dX3_fieldLetters_21 (by decide) ?_
          show V 25 [some (ZR this), some (ZI x1_4), some (ZI x2_4)] [ZI (zq_shl 1 x2_4), ZI x1_4] 284 σ
          refine zr_ior (pc := 25) hV dX3_fieldLetters_25 ?_
          have t5 := zq_or_in x1_4 (zq_shl 1 x2_4)
          refine zr_istore_n (pc := 26) hV [some (ZR this), some (ZI (zq_or x1_4 (zq_shl 1 x2_4))), some (ZI x2_4)] dX3_fieldLetters_26 rfl (by decide) rfl rfl ?_
          refine zr_iinc (pc := 27) hV [some (ZR this), some (ZI (zq_or x1_4 (zq_shl 1 x2_4))), some (ZI (x2_4 + 1))] (x2_4 + 1) dX3_fieldLetters_27 rfl rfl (by decide) rfl rfl ?_
          refine zr_goto (pc := 30) hV 4 dX3_fieldLetters_30 (by decide) ?_
          exact ih4 (zq_or x1_4 (zq_shl 1 x2_4)) (x2_4 + 1) (by omega) (by omega) (by rw [(zu_fl_s (σ (this + 1)) (n := x2_4) (by omega)).1 (by omega), ← hi4_0]) (by omega)
  exact L4 (4 - (0 : Int) + 1 : Int).toNat 0 0 (by omega) (by omega) (zu_fl_0 _).symm (by omega)
set_option maxHeartbeats 800000 in
theorem c_X9_isBits_2 {σ : zq_S} (hσ : zc_T σ) (bits : Int) (q0 : zq_in bits) : zq_C zc_w yX9_isBits cX9_isBits 2 (some .boolean) 1 20 284 284 [ZR 3, ZI bits] σ (zq_pp σ (fun r => (0 ≤ r ∧ r ≤ 1) ∧ (r = 1 → 0 ≤ bits ∧ bits ≤ 4095) ∧ (r = 1 ↔ 0 ≤ bits ∧ bits < zx_p2 (σ 3 2)))) := by
  refine zq_C_of (by decide) (Nat.le_refl _) (Nat.le_of_ble_eq_true rfl) [some (ZR 3), some (ZI bits)] rfl (fun V hV => ?_)
  show V 0 [some (ZR 3), some (ZI bits)] [] 284 σ
  refine zr_iload_n (pc := 0) hV dX9_isBits_0 rfl rfl ?_
  refine zr_if_lt (pc := 1) hV 16 dX9_isBits_1 (by decide) (by omega) (fun c1 => ?_) (fun c1 => ?_)
  · show V 16 [some (ZR 3), some (ZI bits)] [] 284 σ
    refine zr_iconst (pc := 16) hV 0 dX9_isBits_16 rfl ?_
    show V 17 [some (ZR 3), some (ZI bits)] [ZI 0] 284 σ
    exact zr_zret (pc := 17) hV dX9_isBits_17 rfl rfl (by omega) ⟨rfl, _, rfl, ⟨by decide, by decide⟩, (by omega)⟩
  · show V 4 [some (ZR 3), some (ZI bits)] [] 284 σ
    refine zr_iload_n (pc := 4) hV dX9_isBits_4 rfl rfl ?_
    refine zr_aload_n (pc := 5) hV dX9_isBits_5 rfl rfl ?_
    refine zr_callVp (pc := 6) hV [] (st := [ZI bits]) (c_X9_bitsInAll_2 (σ := σ) hσ) dX9_isBits_6 mX9_48 (zc_k3 zc_s3) (zc_pos zc_s3 rfl) (by decide) (Nat.le_of_ble_eq_true rfl) (Nat.le_refl _) (fun r6 hr6 pr6 => ?_)
    have t2 := zc_g3_2 hσ zc_s3
    refine zr_icmp_ge (pc := 9) hV 16 dX9_isBits_9 (by decide) (by omega) (by omega) (fun c3 => ?_) (fun c3 => ?_)
    · show V 16 [some (ZR 3), some (ZI bits)] [] 284 σ
      refine zr_iconst (pc := 16) hV 0 dX9_isBits_16 rfl ?_
      show V 17 [some (ZR 3), some (ZI bits)] [ZI 0] 284 σ
      exact zr_zret (pc := 17) hV dX9_isBits_17 rfl rfl (by omega) ⟨rfl, _, rfl, ⟨by decide, by decide⟩, (by omega)⟩
    · show V 12 [some (ZR 3), some (ZI bits)] [] 284 σ
      refine zr_iconst (pc := 12) hV 1 dX9_isBits_12 rfl ?_
      refine zr_goto (pc := 13) hV 17 dX9_isBits_13 (by decide) ?_
      show V 17 [some (ZR 3), some (ZI bits)] [ZI 1] 284 σ
      exact zr_zret (pc := 17) hV dX9_isBits_17 rfl rfl (by omega) ⟨rfl, _, rfl, ⟨by decide, by decide⟩, (by omega)⟩
