set_option maxHeartbeats 800000 in
theorem c_X9_countHoles_2 {σ : zq_S} (hσ : zc_T σ)  (q0 : ∀ i, 0 ≤ i → i < σ 3 3 → zt_bc (σ (σ 10 i) 1) ≤ σ 3 2) : zq_C zc_w yX9_countHoles cX9_countHoles 3 (some .int) 1 20 284 284 [ZR 3] σ (zq_pp σ (fun r => r = zx_p2 (σ 3 2) - zu_sm (zu_cf1 σ) (σ 3 3))) := by
  refine zq_C_of (by decide) (Nat.le_refl _) (Nat.le_of_ble_eq_true rfl) [some (ZR 3), none, none] rfl (fun V hV => ?_)
  have zb2 := zc_g3_2 hσ zc_s3
  show V 0 [some (ZR 3), none, none] [] 284 σ
  refine zr_aload_n (pc := 0) hV dX9_countHoles_0 rfl rfl ?_
  refine zr_callVp (pc := 1) hV [] (st := []) (c_X9_bitsInAll_2 (σ := σ) hσ) dX9_countHoles_1 mX9_48 (zc_k3 zc_s3) (zc_pos zc_s3 rfl) (by decide) (Nat.le_of_ble_eq_true rfl) (Nat.le_refl _) (fun r1 hr1 pr1 => ?_)
  have t1 := zc_g3_2 hσ zc_s3
  refine zr_istore_n (pc := 4) hV [some (ZR 3), some (ZI r1), none] dX9_countHoles_4 rfl (by decide) rfl rfl ?_
  refine zr_iconst (pc := 5) hV 0 dX9_countHoles_5 rfl ?_
  refine zr_istore_n (pc := 6) hV [some (ZR 3), some (ZI r1), some (ZI 0)] dX9_countHoles_6 rfl (by decide) rfl rfl ?_
  have L7 : ∀ (fuel : Nat) (x1_7 : Int) (x2_7 : Int), ((-81920) ≤ x1_7 ∧ x1_7 ≤ 4096) → (0 ≤ x2_7 ∧ x2_7 ≤ 20) → (x1_7 = zx_p2 (σ 3 2) - zu_sm (zu_cf1 σ) x2_7) → (-4096 * x2_7 ≤ x1_7 ∧ x1_7 ≤ 4096) → (x2_7 ≤ σ 3 3) → 20 - x2_7 < (fuel : Int) → V 7 [some (ZR 3), some (ZI x1_7), some (ZI x2_7)] [] 284 σ := by
    intro fuel
    induction fuel with
    | zero =>
      intro x1_7 x2_7 hx1_7 hx2_7 hi7_0 hi7_1 hi7_2 hm7
      exfalso; omega
    | succ fuel ih =>
      intro x1_7 x2_7 hx1_7 hx2_7 hi7_0 hi7_1 hi7_2 hm7
      have ih7 := ih
      show V 7 [some (ZR 3), some (ZI x1_7), some (ZI x2_7)] [] 284 σ
      refine zr_iload_n (pc := 7) hV dX9_countHoles_7 rfl rfl ?_
      refine zr_aload_n (pc := 8) hV dX9_countHoles_8 rfl rfl ?_
      refine zr_getI (pc := 9) hV 3 dX9_countHoles_9 fX9_36 rfl rfl (zc_k3 zc_s3) (zc_pos zc_s3 rfl) ?_
      have t2 := zc_g3_3 hσ zc_s3
      refine zr_icmp_ge (pc := 12) hV 43 dX9_countHoles_12 (by decide) (by omega) (by omega) (fun c3 => ?_) (fun c3 => ?_)
      · show V 43 [some (ZR 3), some (ZI x1_7), some (ZI x2_7)] [] 284 σ
        refine zr_iload_n (pc := 43) hV dX9_countHoles_43 rfl rfl ?_
        exact zr_iret (pc := 44) hV dX9_countHoles_44 rfl rfl ⟨rfl, _, rfl, (by omega), (by rw [show σ 3 3 = x2_7 by omega]; omega)⟩
      · show V 15 [some (ZR 3), some (ZI x1_7), some (ZI x2_7)] [] 284 σ
        refine zr_iload_n (pc := 15) hV dX9_countHoles_15 rfl rfl ?_
        refine zr_iconst (pc := 16) hV 1 dX9_countHoles_16 rfl ?_
        refine zr_aload_n (pc := 17) hV dX9_countHoles_17 rfl rfl ?_
        refine zr_getI (pc := 18) hV 2 dX9_countHoles_18 fX9_33 rfl rfl (zc_k3 zc_s3) (zc_pos zc_s3 rfl) ?_
        have t4 := zc_g3_2 hσ zc_s3
        refine zr_aload_n (pc := 21) hV dX9_countHoles_21 rfl rfl ?_
        refine zr_getR (pc := 22) hV 6 10 dX9_countHoles_22 fX9_18 rfl rfl (zc_k3 zc_s3) (zc_pos zc_s3 rfl) (zc_g3_6 hσ zc_s3) (by decide) ?_
        refine zr_iload_n (pc := 25) hV dX9_countHoles_25 rfl rfl ?_
        have ga26 : zc_kd (σ 10 x2_7) = 4 := zc_ga10 hσ zc_s10 x2_7 (by omega) (by omega)
        refine zr_aald (pc := 26) hV dX9_countHoles_26 (zc_k10 zc_s10) (Or.inl rfl) (zc_pos zc_s10 rfl) rfl (by omega) (zc_pos ga26 rfl).1 ?_
        obtain ⟨o26, eo26⟩ : ∃ o, σ 10 x2_7 = o := ⟨_, rfl⟩
        rw [eo26] at ga26 ⊢
        have ko26 := ga26
        have po26 := zc_pos ko26 rfl
        show V 27 [some (ZR 3), some (ZI x1_7), some (ZI x2_7)] [ZR o26, ZI (σ 3 2), ZI 1, ZI x1_7] 284 σ
        refine zr_getI (pc := 27) hV 1 dX9_countHoles_27 fX9_72 rfl rfl (zc_k4 ko26) (zc_pos ko26 rfl) ?_
        have t5 := zc_g4_1 hσ ko26
        have t6 := zc_g4_1 hσ ko26
        refine zr_callSp (pc := 30) hV [ZI (σ o26 1)] (st := [ZI (σ 3 2), ZI 1, ZI x1_7]) (c_J6_bitCount_0f7a4_2 (σ := σ) (σ o26 1) (by omega)) dX9_countHoles_30 mX9_92 (by decide) (Nat.le_of_ble_eq_true rfl) (Nat.le_refl _) (fun r30 hr30 pr30 => ?_)
        have t7 := zc_g4_1 hσ ko26
        have z30 : r30 = zt_bc (σ (σ 10 x2_7) 1) := by rw [eo26]; omega
        have zq := q0 x2_7 (by omega) (by omega)
        have zcf : zu_cf1 σ x2_7 = zx_p2 (σ 3 2 - r30) := by unfold zu_cf1; rw [← z30]
        refine zr_isub (pc := 33) hV dX9_countHoles_33 ?_
        refine zr_ishl (pc := 34) hV dX9_countHoles_34 ?_
        have t8 := zq_shl_in 1 ((σ 3 2) - r30)
        have zsh : zq_shl 1 (σ 3 2 - r30) = zx_p2 (σ 3 2 - r30) := (zx_shl_one 12 4096 (by decide) (by decide) (by omega)).1
        have zple := zx_p2_le (m := σ 3 2 - r30) (n := 12) (by omega)
        have zpp := zx_p2_pos (σ 3 2 - r30)
        have z12 := zx_p2_12
        refine zr_isub (pc := 35) hV dX9_countHoles_35 ?_
        refine zr_istore_n (pc := 36) hV [some (ZR 3), some (ZI (x1_7 - (zq_shl 1 ((σ 3 2) - r30)))), some (ZI x2_7)] dX9_countHoles_36 rfl (by decide) rfl rfl ?_
        refine zr_iinc (pc := 37) hV [some (ZR 3), some (ZI (x1_7 - (zq_shl 1 ((σ 3 2) - r30)))), some (ZI (x2_7 + 1))] (x2_7 + 1) dX9_countHoles_37 rfl rfl (by decide) rfl rfl ?_
        refine zr_goto (pc := 40) hV 7 dX9_countHoles_40 (by decide) ?_
        have t9 := zc_g3_2 hσ zc_s3
        have t10 := zc_g3_3 hσ zc_s3
        exact ih7 (x1_7 - (zq_shl 1 ((σ 3 2) - r30))) (x2_7 + 1) (by omega) (by omega) (by rw [zu_sm_s (by omega)]; omega) (by omega) (by omega) (by omega)
  have t11 := zc_g3_2 hσ zc_s3
  have t12 := zc_g3_3 hσ zc_s3
  exact L7 (20 - (0 : Int) + 1 : Int).toNat r1 0 (by omega) (by omega) (by rw [zu_sm_0]; omega) (by omega) (by omega) (by omega)
set_option maxHeartbeats 800000 in
theorem c_X11_holes_2 {σ : zq_S} (hσ : zc_T σ)  (q0 : ∀ i, 0 ≤ i → i < σ 3 3 → zt_bc (σ (σ 10 i) 1) ≤ σ 3 2) (Uσ : zc_U σ) : zq_C zc_w yX11_holes cX11_holes 1 (some .int) 2 42 284 284 [ZR 0] σ (zq_pp σ (fun r => r = zx_p2 (σ 3 2) - zu_sm (zu_cf1 σ) (σ 3 3))) := by
  refine zq_C_of (by decide) (Nat.le_refl _) (Nat.le_of_ble_eq_true rfl) [some (ZR 0)] rfl (fun V hV => ?_)
  show V 0 [some (ZR 0)] [] 284 σ
  refine zr_aload_n (pc := 0) hV dX11_holes_0 rfl rfl ?_
  refine zr_getR (pc := 1) hV 1 3 dX11_holes_1 fX11_19 rfl rfl (zc_k0 zc_s0) (zc_pos zc_s0 rfl) (zc_g0_1 hσ zc_s0) (by decide) ?_
  have t1 := zc_g3_2 hσ zc_s3
  have t2 := zc_g3_3 hσ zc_s3
  refine zr_callVp (pc := 4) hV [] (st := []) (c_X9_countHoles_2 (σ := σ) hσ q0) dX11_holes_4 mX11_144 (zc_k3 zc_s3) (zc_pos zc_s3 rfl) (by decide) (Nat.le_of_ble_eq_true rfl) (Nat.le_refl _) (fun r4 hr4 pr4 => ?_)
  have t3 := zc_g3_2 hσ zc_s3
  have t4 := zc_g3_3 hσ zc_s3
  exact zr_iret (pc := 7) hV dX11_holes_7 rfl rfl ⟨rfl, _, rfl, (by omega), (by omega)⟩
