set_option maxHeartbeats 800000 in
theorem c_X9_nameNumber_3 {σ : zq_S} (hσ : zc_T σ) (name : Int) (q0 : zq_in name) : zq_C zc_w yX9_nameNumber cX9_nameNumber 3 (some .int) 0 0 284 284 [ZR 3, ZI name] σ (zq_pp σ (fun r => (-1 ≤ r ∧ r < σ 3 3) ∧ (r = -1 → ∀ i, 0 ≤ i → i < σ 3 3 → σ (σ 10 i) 0 ≠ name) ∧ zq_hid (0 ≤ r → σ (σ 10 r) 0 = name ∧ ∀ i, 0 ≤ i → i < r → σ (σ 10 i) 0 ≠ name))) := by
  refine zq_C_of (by decide) (Nat.le_refl _) (Nat.le_of_ble_eq_true rfl) [some (ZR 3), some (ZI name), none] rfl (fun V hV => ?_)
  show V 0 [some (ZR 3), some (ZI name), none] [] 284 σ
  refine zr_iconst (pc := 0) hV 0 dX9_nameNumber_0 rfl ?_
  refine zr_istore_n (pc := 1) hV [some (ZR 3), some (ZI name), some (ZI 0)] dX9_nameNumber_1 rfl (by decide) rfl rfl ?_
  have L2 : ∀ (fuel : Nat) (x2_2 : Int), (0 ≤ x2_2 ∧ x2_2 ≤ 20) → (zq_hid (∀ i, 0 ≤ i → i < x2_2 → σ (σ 10 i) 0 ≠ name)) → 20 - x2_2 < (fuel : Int) → V 2 [some (ZR 3), some (ZI name), some (ZI x2_2)] [] 284 σ := by
    intro fuel
    induction fuel with
    | zero =>
      intro x2_2 hx2_2 hi2_0 hm2
      exfalso; omega
    | succ fuel ih =>
      intro x2_2 hx2_2 hi2_0 hm2
      have ih2 := ih
      show V 2 [some (ZR 3), some (ZI name), some (ZI x2_2)] [] 284 σ
      refine zr_iload_n (pc := 2) hV dX9_nameNumber_2 rfl rfl ?_
      refine zr_aload_n (pc := 3) hV dX9_nameNumber_3 rfl rfl ?_
      refine zr_getI (pc := 4) hV 3 dX9_nameNumber_4 fX9_36 rfl rfl (zc_k3 zc_s3) (zc_pos zc_s3 rfl) ?_
      have t1 := zc_g3_3 hσ zc_s3
      refine zr_icmp_ge (pc := 7) hV 31 dX9_nameNumber_7 (by decide) (by omega) (by omega) (fun c2 => ?_) (fun c2 => ?_)
      · show V 31 [some (ZR 3), some (ZI name), some (ZI x2_2)] [] 284 σ
        refine zr_iconst (pc := 31) hV (-1) dX9_nameNumber_31 rfl ?_
        exact zr_iret (pc := 32) hV dX9_nameNumber_32 rfl rfl ⟨rfl, _, rfl, ⟨by decide, by decide⟩, ⟨by omega, fun _ i h0 h1 => hi2_0 i h0 (by omega), fun h => absurd h (by omega)⟩⟩
      · show V 10 [some (ZR 3), some (ZI name), some (ZI x2_2)] [] 284 σ
        refine zr_aload_n (pc := 10) hV dX9_nameNumber_10 rfl rfl ?_
        refine zr_getR (pc := 11) hV 6 10 dX9_nameNumber_11 fX9_18 rfl rfl (zc_k3 zc_s3) (zc_pos zc_s3 rfl) (zc_g3_6 hσ zc_s3) (by decide) ?_
        refine zr_iload_n (pc := 14) hV dX9_nameNumber_14 rfl rfl ?_
        have ga15 : zc_kd (σ 10 x2_2) = 4 := zc_ga10 hσ zc_s10 x2_2 (by omega) (by omega)
        refine zr_aald (pc := 15) hV dX9_nameNumber_15 (zc_k10 zc_s10) (Or.inl rfl) (zc_pos zc_s10 rfl) rfl (by omega) (zc_pos ga15 rfl).1 ?_
        obtain ⟨o15, eo15⟩ : ∃ o, σ 10 x2_2 = o := ⟨_, rfl⟩
        rw [eo15] at ga15 ⊢
        have ko15 := ga15
        have po15 := zc_pos ko15 rfl
        show V 16 [some (ZR 3), some (ZI name), some (ZI x2_2)] [ZR o15] 284 σ
        refine zr_getI (pc := 16) hV 0 dX9_nameNumber_16 fX9_60 rfl rfl (zc_k4 ko15) (zc_pos ko15 rfl) ?_
        have t3 := zc_g4_0 hσ ko15
        refine zr_iload_n (pc := 19) hV dX9_nameNumber_19 rfl rfl ?_
        refine zr_icmp_ne (pc := 20) hV 25 dX9_nameNumber_20 (by decide) (by omega) (by omega) (fun c4 => ?_) (fun c4 => ?_)
        · show V 25 [some (ZR 3), some (ZI name), some (ZI x2_2)] [] 284 σ
          refine zr_iinc (pc := 25) hV [some (ZR 3), some (ZI name), some (ZI (x2_2 + 1))] (x2_2 + 1) dX9_nameNumber_25 rfl rfl (by decide) rfl rfl ?_
          refine zr_goto (pc := 28) hV 2 dX9_nameNumber_28 (by decide) ?_
          exact ih2 (x2_2 + 1) (by omega) (fun i h0 h1 => if hc : i = x2_2 then (by rw [hc, eo15]; omega) else hi2_0 i h0 (by omega)) (by omega)
        · show V 23 [some (ZR 3), some (ZI name), some (ZI x2_2)] [] 284 σ
          refine zr_iload_n (pc := 23) hV dX9_nameNumber_23 rfl rfl ?_
          exact zr_iret (pc := 24) hV dX9_nameNumber_24 rfl rfl ⟨rfl, _, rfl, (by omega), ⟨by omega, fun h => absurd h (by omega), fun _ => ⟨by rw [eo15]; omega, fun i h0 h1 => hi2_0 i h0 (by omega)⟩⟩⟩
  exact L2 (20 - (0 : Int) + 1 : Int).toNat 0 (by omega) (fun i h0 h1 => absurd h1 (by omega)) (by omega)
set_option maxHeartbeats 800000 in
theorem c_X3_withField_2 {σ : zq_S} (hσ : zc_T σ) (this : Int) (kthis : zc_kd this = 4) (bits : Int) (f : Int) (number : Int) (q0 : 0 ≤ bits ∧ bits ≤ 4095) (q1 : 0 ≤ f ∧ f ≤ 3) (q2 : 0 ≤ number ∧ number ≤ 4095) : zq_C zc_w yX3_withField cX3_withField 7 (some .int) 0 0 284 284 [ZR this, ZI bits, ZI f, ZI number] σ (zq_pp σ (fun r => (0 ≤ r ∧ r ≤ 4095) ∧ r = (zu_wf (σ (this + 1) f) bits number 12).1)) := by
  refine zq_C_of (by decide) (Nat.le_refl _) (Nat.le_of_ble_eq_true rfl) [some (ZR this), some (ZI bits), some (ZI f), some (ZI number), none, none, none] rfl (fun V hV => ?_)
  have pothis := zc_pos kthis rfl
  show V 0 [some (ZR this), some (ZI bits), some (ZI f), some (ZI number), none, none, none] [] 284 σ
  refine zr_iload_n (pc := 0) hV dX3_withField_0 rfl rfl ?_
  refine zr_istore (pc := 1) hV [some (ZR this), some (ZI bits), some (ZI f), some (ZI number), some (ZI bits), none, none] dX3_withField_1 (by decide) rfl rfl ?_
  refine zr_iload_n (pc := 3) hV dX3_withField_3 rfl rfl ?_
  refine zr_istore (pc := 4) hV [some (ZR this), some (ZI bits), some (ZI f), some (ZI number), some (ZI bits), some (ZI number), none] dX3_withField_4 (by decide) rfl rfl ?_
  refine zr_iconst (pc := 6) hV 1 dX3_withField_6 rfl ?_
  refine zr_istore (pc := 7) hV [some (ZR this), some (ZI bits), some (ZI f), some (ZI number), some (ZI bits), some (ZI number), some (ZI 1)] dX3_withField_7 (by decide) rfl rfl ?_
  have L9 : ∀ (fuel : Nat) (x4_9 : Int) (x5_9 : Int) (x6_9 : Int) (k9 : Int), (0 ≤ x4_9 ∧ x4_9 ≤ 4095) → (0 ≤ x5_9 ∧ x5_9 ≤ 4095) → (1 ≤ x6_9 ∧ x6_9 ≤ 4096) → (0 ≤ k9 ∧ k9 ≤ 12) → (x6_9 = zx_p2 k9) → (x4_9 = (zu_wf (σ (this + 1) f) bits number k9).1) → (x5_9 = (zu_wf (σ (this + 1) f) bits number k9).2) → 8192 - x6_9 < (fuel : Int) → V 9 [some (ZR this), none, some (ZI f), none, some (ZI x4_9), some (ZI x5_9), some (ZI x6_9)] [] 284 σ := by
    intro fuel
    induction fuel with
    | zero =>
      intro x4_9 x5_9 x6_9 k9 hx4_9 hx5_9 hx6_9 hi9_0 hi9_1 hi9_2 hi9_3 hm9
      exfalso; omega
    | succ fuel ih =>
      intro x4_9 x5_9 x6_9 k9 hx4_9 hx5_9 hx6_9 hi9_0 hi9_1 hi9_2 hi9_3 hm9
      have ih9 := ih
      show V 9 [some (ZR this), none, some (ZI f), none, some (ZI x4_9), some (ZI x5_9), some (ZI x6_9)] [] 284 σ
      refine zr_iload (pc := 9) hV dX3_withField_9 rfl ?_
      refine zr_sipush (pc := 11) hV 4096 dX3_withField_11 (by decide) ?_
      refine zr_icmp_ge (pc := 14) hV 62 dX3_withField_14 (by decide) (by omega) ⟨by decide, by decide⟩ (fun c1 => ?_) (fun c1 => ?_)
      · show V 62 [some (ZR this), none, some (ZI f), none, some (ZI x4_9), some (ZI x5_9), some (ZI x6_9)] [] 284 σ
        have zk : k9 = 12 := Classical.byContradiction (fun c => by have q := zx_p2_le (m := k9) (n := 11) (by omega); have z11 : zx_p2 11 = 2048 := rfl; omega)
        refine zr_iload (pc := 62) hV dX3_withField_62 rfl ?_
        exact zr_iret (pc := 64) hV dX3_withField_64 rfl rfl ⟨rfl, _, rfl, (by omega), ⟨by omega, (by rw [← zk]; exact hi9_2)⟩⟩
      · show V 17 [some (ZR this), none, some (ZI f), none, some (ZI x4_9), some (ZI x5_9), some (ZI x6_9)] [] 284 σ
        have zk : k9 ≤ 11 := Classical.byContradiction (fun c => by have e := hi9_1; rw [show k9 = 12 by omega, zx_p2_12] at e; omega)
        have zps := zx_p2_s k9 (by omega)
        have zle := zx_p2_le (m := k9) (n := 11) zk
        have z11 : zx_p2 11 = 2048 := rfl
        refine zr_aload_n (pc := 17) hV dX3_withField_17 rfl rfl ?_
        refine zr_getR (pc := 18) hV 3 (this + 1) dX3_withField_18 fX3_9 rfl rfl (zc_k4 kthis) (zc_pos kthis rfl) (zc_g4_3 hσ kthis) (zc_pos (zc_p4_1 kthis) rfl).1 ?_
        refine zr_iload_n (pc := 21) hV dX3_withField_21 rfl rfl ?_
        refine zr_iald (pc := 22) hV dX3_withField_22 (zc_k5 (zc_p4_1 kthis)) (zc_pos (zc_p4_1 kthis) rfl) rfl (by omega) ?_
        have t2 := zc_ga5 hσ (zc_p4_1 kthis) f
        refine zr_iload (pc := 23) hV dX3_withField_23 rfl ?_
        refine zr_iand (pc := 25) hV dX3_withField_25 ?_
        have t3 := zq_and_nnR (x := σ (this + 1) f) (y := x6_9) (by omega)
        refine zr_if_eq (pc := 26) hV 53 dX3_withField_26 (by decide) (by omega) (fun c4 => ?_) (fun c4 => ?_)
        · show V 53 [some (ZR this), none, some (ZI f), none, some (ZI x4_9), some (ZI x5_9), some (ZI x6_9)] [] 284 σ
          refine zr_iload (pc := 53) hV dX3_withField_53 rfl ?_
          refine zr_iconst (pc := 55) hV 1 dX3_withField_55 rfl ?_
          refine zr_ishl (pc := 56) hV dX3_withField_56 ?_
          have t5 : zq_shl x6_9 1 = x6_9 * 2 := zq_shl_c (x := x6_9) 1 2 (by decide) (by decide) (by omega)
          refine zr_istore (pc := 57) hV [some (ZR this), none, some (ZI f), none, some (ZI x4_9), some (ZI x5_9), some (ZI (zq_shl x6_9 1))] dX3_withField_57 (by decide) rfl rfl ?_
          refine zr_goto (pc := 59) hV 9 dX3_withField_59 (by decide) ?_
          exact ih9 x4_9 x5_9 (zq_shl x6_9 1) (k9 + 1) (by omega) (by omega) (by omega) (by omega) (by omega) (by rw [zu_wf_n (by omega) (by rw [← hi9_1]; omega)]; exact hi9_2) (by rw [zu_wf_n (by omega) (by rw [← hi9_1]; omega)]; exact hi9_3) (by omega)
        · show V 29 [some (ZR this), none, some (ZI f), none, some (ZI x4_9), some (ZI x5_9), some (ZI x6_9)] [] 284 σ
          refine zr_iload (pc := 29) hV dX3_withField_29 rfl ?_
          refine zr_iload (pc := 31) hV dX3_withField_31 rfl ?_
          refine zr_iconst (pc := 33) hV 1 dX3_withField_33 rfl ?_
          refine zr_iand (pc := 34) hV dX3_withField_34 ?_
          have t6 := zq_and_mask x5_9 1 1 2 (by decide) (by decide) (by decide)
          refine zr_if_ne (pc := 35) hV 42 dX3_withField_35 (by decide) (by omega) (fun c7 => ?_) (fun c7 => ?_)
          · show V 42 [some (ZR this), none, some (ZI f), none, some (ZI x4_9), some (ZI x5_9), some (ZI x6_9)] [ZI x4_9] 284 σ
            refine zr_iload (pc := 42) hV dX3_withField_42 rfl ?_
            show V 44 [some (ZR this), none, some (ZI f), none, some (ZI x4_9), some (ZI x5_9), some (ZI x6_9)] [ZI x6_9, ZI x4_9] 284 σ
            refine zr_ior (pc := 44) hV dX3_withField_44 ?_
            have t8 := zq_or_b (x := x4_9) (y := x6_9) 12 4096 (by decide) (by decide) (by omega) (by omega)
            refine zr_istore (pc := 45) hV [some (ZR this), none, some (ZI f), none, some (ZI (zq_or x4_9 x6_9)), some (ZI x5_9), some (ZI x6_9)] dX3_withField_45 (by decide) rfl rfl ?_
            refine zr_iload (pc := 47) hV dX3_withField_47 rfl ?_
            refine zr_iconst (pc := 49) hV 1 dX3_withField_49 rfl ?_
            refine zr_ishr (pc := 50) hV dX3_withField_50 ?_
            have t9 : zq_shr x5_9 1 = x5_9 / 2 := zq_shr_c (x := x5_9) 1 2 (by decide) (by decide) (by omega)
            refine zr_istore (pc := 51) hV [some (ZR this), none, some (ZI f), none, some (ZI (zq_or x4_9 x6_9)), some (ZI (zq_shr x5_9 1)), some (ZI x6_9)] dX3_withField_51 (by decide) rfl rfl ?_
            show V 53 [some (ZR this), none, some (ZI f), none, some (ZI (zq_or x4_9 x6_9)), some (ZI (zq_shr x5_9 1)), some (ZI x6_9)] [] 284 σ
            refine zr_iload (pc := 53) hV dX3_withField_53 rfl ?_
            refine zr_iconst (pc := 55) hV 1 dX3_withField_55 rfl ?_
            refine zr_ishl (pc := 56) hV dX3_withField_56 ?_
            have t10 : zq_shl x6_9 1 = x6_9 * 2 := zq_shl_c (x := x6_9) 1 2 (by decide) (by decide) (by omega)
            refine zr_istore (pc := 57) hV [some (ZR this), none, some (ZI f), none, some (ZI (zq_or x4_9 x6_9)), some (ZI (zq_shr x5_9 1)), some (ZI (zq_shl x6_9 1))] dX3_withField_57 (by decide) rfl rfl ?_
            refine zr_goto (pc := 59) hV 9 dX3_withField_59 (by decide) ?_
            exact ih9 (zq_or x4_9 x6_9) (zq_shr x5_9 1) (zq_shl x6_9 1) (k9 + 1) (by omega) (by omega) (by omega) (by omega) (by omega) (by rw [zu_wf_y1 (by omega) (by rw [← hi9_1]; omega) (by rw [← hi9_3]; omega)]; show _ = zq_or (zu_wf (σ (this + 1) f) bits number k9).1 (zx_p2 k9); rw [← hi9_2, ← hi9_1]) (by rw [zu_wf_y1 (by omega) (by rw [← hi9_1]; omega) (by rw [← hi9_3]; omega)]; show _ = zq_shr (zu_wf (σ (this + 1) f) bits number k9).2 1; rw [← hi9_3]) (by omega)
          · show V 38 [some (ZR this), none, some (ZI f), none, some (ZI x4_9), some (ZI x5_9), some (ZI x6_9)] [ZI x4_9] 284 σ
            refine zr_iconst (pc := 38) hV 0 dX3_withField_38 rfl ?_
            refine zr_goto (pc := 39) hV 44 dX3_withField_39 (by decide) ?_
            show V 44 [some (ZR this), none, some (ZI f), none, some (ZI x4_9), some (ZI x5_9), some (ZI x6_9)] [ZI 0, ZI x4_9] 284 σ
            refine zr_ior (pc := 44) hV dX3_withField_44 ?_
            have t11 := zq_or_b (x := x4_9) (y := 0) 12 4096 (by decide) (by decide) (by omega) (by omega)
            refine zr_istore (pc := 45) hV [some (ZR this), none, some (ZI f), none, some (ZI (zq_or x4_9 0)), some (ZI x5_9), some (ZI x6_9)] dX3_withField_45 (by decide) rfl rfl ?_
            refine zr_iload (pc := 47) hV dX3_withField_47 rfl ?_
            refine zr_iconst (pc := 49) hV 1 dX3_withField_49 rfl ?_
            refine zr_ishr (pc := 50) hV dX3_withField_50 ?_
            have t12 : zq_shr x5_9 1 = x5_9 / 2 := zq_shr_c (x := x5_9) 1 2 (by decide) (by decide) (by omega)
            refine zr_istore (pc := 51) hV [some (ZR this), none, some (ZI f), none, some (ZI (zq_or x4_9 0)), some (ZI (zq_shr x5_9 1)), some (ZI x6_9)] dX3_withField_51 (by decide) rfl rfl ?_
            show V 53 [some (ZR this), none, some (ZI f), none, some (ZI (zq_or x4_9 0)), some (ZI (zq_shr x5_9 1)), some (ZI x6_9)] [] 284 σ
            refine zr_iload (pc := 53) hV dX3_withField_53 rfl ?_
            refine zr_iconst (pc := 55) hV 1 dX3_withField_55 rfl ?_
            refine zr_ishl (pc := 56) hV dX3_withField_56 ?_
            have t13 : zq_shl x6_9 1 = x6_9 * 2 := zq_shl_c (x := x6_9) 1 2 (by decide) (by decide) (by omega)
            refine zr_istore (pc := 57) hV [some (ZR this), none, some (ZI f), none, some (ZI (zq_or x4_9 0)), some (ZI (zq_shr x5_9 1)), some (ZI (zq_shl x6_9 1))] dX3_withField_57 (by decide) rfl rfl ?_
            refine zr_goto (pc := 59) hV 9 dX3_withField_59 (by decide) ?_
            exact ih9 (zq_or x4_9 0) (zq_shr x5_9 1) (zq_shl x6_9 1) (k9 + 1) (by omega) (by omega) (by omega) (by omega) (by omega) (by rw [zu_wf_y0 (by omega) (by rw [← hi9_1]; omega) (by rw [← hi9_3]; omega)]; show _ = zq_or (zu_wf (σ (this + 1) f) bits number k9).1 0; rw [← hi9_2]) (by rw [zu_wf_y0 (by omega) (by rw [← hi9_1]; omega) (by rw [← hi9_3]; omega)]; show _ = zq_shr (zu_wf (σ (this + 1) f) bits number k9).2 1; rw [← hi9_3]) (by omega)
  refine zr_sub (pc := 9) hV [some (ZR this), none, some (ZI f), none, some (ZI bits), some (ZI number), some (ZI 1)] (⟨rfl, rfl, rfl, rfl, rfl, trivial⟩) ?_
  exact L9 (8192 - (1 : Int) + 1 : Int).toNat bits number 1 0 (by omega) (by omega) (by omega) (by omega) rfl rfl rfl (by omega)
set_option maxHeartbeats 800000 in
theorem c_X4_readLine_2 {σ : zq_S} (hσ : zc_T σ)  (q0 : ∀ o f, 0 ≤ o → o < σ 3 3 → 0 ≤ f → f ≤ 3 → zt_bc (σ (σ 10 o + 1) f) ≤ 8) : zq_C zc_w yX4_readLine cX4_readLine 6 (some .int) 2 43 284 284 [ZR 132] σ (zq_pi (fun r τ => zc_T τ ∧ zc_Fr [(1, 2), (1, 3)] σ τ ∧ (((-1) ≤ r ∧ r ≤ 4095)) ∧ zq_hid (((∀ i, 0 ≤ i → i < σ 3 3 → σ (σ 10 i) 0 ≠ (zt_na (σ 2) (zt_z0 (σ 2) (σ 1 1)) (zt_n0 (σ 2) (σ 1 1)))) ∧ r < 0 ∧ τ 1 2 = (zt_z0 (σ 2) (σ 1 1))) ∨ (∃ o, 0 ≤ o ∧ o < σ 3 3 ∧ σ (σ 10 o) 0 = (zt_na (σ 2) (zt_z0 (σ 2) (σ 1 1)) (zt_n0 (σ 2) (σ 1 1))) ∧ (∀ i, 0 ≤ i → i < o → σ (σ 10 i) 0 ≠ (zt_na (σ 2) (zt_z0 (σ 2) (σ 1 1)) (zt_n0 (σ 2) (σ 1 1)))) ∧ zu_lq (zu_cln σ (σ 10 o) (σ 2) (σ 1 1) 4) (σ 2) (σ 1 1) (zu_cbt σ (σ 10 o) (σ 2) (σ 1 1) 4) r (τ 1 2))))) := by
  refine zq_C_of (by decide) (Nat.le_refl _) (Nat.le_of_ble_eq_true rfl) [some (ZR 132), none, none, none, none, none] rfl (fun V hV => ?_)
  have hFσ := zc_Fr_rf [(1, 2), (1, 3)] σ
  show V 0 [some (ZR 132), none, none, none, none, none] [] 284 σ
  refine zr_aload_n (pc := 0) hV dX4_readLine_0 rfl rfl ?_
  refine zr_getR (pc := 1) hV 0 1 dX4_readLine_1 fX4_15 rfl rfl (zc_k132 zc_s132) (zc_pos zc_s132 rfl) (zc_g132_0 hσ zc_s132) (by decide) ?_
  refine zr_callVv (pc := 4) hV [] (st := []) (c_X8_rewind_2 (σ := σ) hσ) dX4_readLine_4 mX4_60 (zc_k1 zc_s1) (zc_pos zc_s1 rfl) (by decide) (Nat.le_of_ble_eq_true rfl) (Nat.le_refl _) (fun σ4 pσ4 => ?_)
  obtain ⟨hσ4, hfσ4, pσ4⟩ := pσ4
  have hFσ4 := zc_Fc hfσ4 rfl hFσ
  have t1 := zc_g1_2 hσ4 zc_s1
  refine zr_aload_n (pc := 7) hV dX4_readLine_7 rfl rfl ?_
  refine zr_getR (pc := 8) hV 1 3 dX4_readLine_8 fX4_19 rfl rfl (zc_k132 zc_s132) (zc_pos zc_s132 rfl) (zc_g132_1 hσ4 zc_s132) (by decide) ?_
  refine zr_aload_n (pc := 11) hV dX4_readLine_11 rfl rfl ?_
  refine zr_getR (pc := 12) hV 1 3 dX4_readLine_12 fX4_19 rfl rfl (zc_k132 zc_s132) (zc_pos zc_s132 rfl) (zc_g132_1 hσ4 zc_s132) (by decide) ?_
  refine zr_aload_n (pc := 15) hV dX4_readLine_15 rfl rfl ?_
  refine zr_getR (pc := 16) hV 0 1 dX4_readLine_16 fX4_15 rfl rfl (zc_k132 zc_s132) (zc_pos zc_s132 rfl) (zc_g132_0 hσ4 zc_s132) (by decide) ?_
  refine zr_callVi (pc := 19) hV [] (st := [ZR 3, ZR 3]) (c_X8_takeName_2 (σ := σ4) hσ4) dX4_readLine_19 mX4_63 (zc_k1 zc_s1) (zc_pos zc_s1 rfl) (by decide) (Nat.le_of_ble_eq_true rfl) (Nat.le_refl _) (fun r19 σ19 hr19 pσ19 => ?_)
  obtain ⟨hσ19, hfσ19, pσ19⟩ := pσ19
  have hFσ19 := zc_Fc hfσ19 rfl hFσ4
  have t2 := zc_g1_1 hσ4 zc_s1
  have t3 : σ4 1 1 = σ 1 1 := hfσ4 _ _ (zc_out_at zc_s1 rfl)
  have t4 := zc_g1_2 hσ4 zc_s1
  have Tσ4 : σ4 2 = σ 2 := funext (fun i => hFσ4 2 i (zc_out_ar zc_s2 rfl))
  have Nσ4 : σ4 1 1 = σ 1 1 := hFσ4 1 1 (zc_out_at zc_s1 rfl)
  rw [Tσ4, Nσ4] at pσ19
  have t5 := zc_g1_2 hσ19 zc_s1
  have t6 := zc_g1_3 hσ19 zc_s1
  have z4 : σ4 1 2 = 0 := pσ4
  rw [z4] at pσ19
  have r19v : r19 = (zt_na (σ 2) (zt_z0 (σ 2) (σ 1 1)) (zt_n0 (σ 2) (σ 1 1))) := pσ19.2.2.2
  refine zr_callVp (pc := 22) hV [ZI r19] (st := [ZR 3]) (c_X9_nameNumber_3 (σ := σ19) hσ19 r19 (by omega)) dX4_readLine_22 mX4_70 (zc_k3 zc_s3) (zc_pos zc_s3 rfl) (by decide) (Nat.le_of_ble_eq_true rfl) (Nat.le_refl _) (fun r22 hr22 pr22 => ?_)
  have t7 := zc_g3_3 hσ19 zc_s3
  have t8 : σ19 3 3 = σ4 3 3 := hfσ19 _ _ (zc_out_at zc_s3 rfl)
  have t9 : σ4 3 3 = σ 3 3 := hfσ4 _ _ (zc_out_at zc_s3 rfl)
  have d3 : σ19 3 3 = σ 3 3 := hFσ19 3 3 (zc_out_at zc_s3 rfl)
  have z33 := zc_g3_3 hσ zc_s3
  have dc : zq_hid (∀ i, 0 ≤ i → i < 20 → σ19 (σ19 10 i) 0 = σ (σ 10 i) 0) := fun i h0 h1 => by rw [hFσ19 10 i (zc_out_ar zc_s10 rfl)]; exact hFσ19 _ 0 (zc_out_at (zc_ga10 hσ zc_s10 i h0 h1) rfl)
  have a19 : σ19 1 2 = (zt_p0 (σ 2) (σ 1 1)) := pσ19.2.2.1
  refine zr_callVr (pc := 25) hV [ZI r22] (st := []) (c_X9_numbered_2 (σ := σ19) hσ19 r22 (by omega)) dX4_readLine_25 mX4_146 (zc_k3 zc_s3) (zc_pos zc_s3 rfl) (by decide) (Nat.le_of_ble_eq_true rfl) (Nat.le_refl _) (fun r25 pr25 => ?_)
  refine zr_astore_nQ (pc := 28) hV [some (ZR 132), some (zq_nr r25), none, none, none, none] dX4_readLine_28 rfl (by decide) rfl rfl ?_
  refine zr_aload_nQ (pc := 29) hV dX4_readLine_29 rfl rfl ?_
  by_cases c10 : r25 < 0
  · rw [zq_nr_n c10]
    refine zr_ifnonnullN (pc := 30) hV dX4_readLine_30 ?_
    show V 33 [some (ZR 132), some (ZN), none, none, none, none] [] 284 σ19
    have nil : r22 = -1 := Classical.byContradiction (fun c => by have q := pr25.2.2 (by omega); omega)
    refine zr_aload_n (pc := 33) hV dX4_readLine_33 rfl rfl ?_
    refine zr_getR (pc := 34) hV 0 1 dX4_readLine_34 fX4_15 rfl rfl (zc_k132 zc_s132) (zc_pos zc_s132 rfl) (zc_g132_0 hσ19 zc_s132) (by decide) ?_
    refine zr_callVv (pc := 37) hV [] (st := []) (c_X8_blameWord_2 (σ := σ19) hσ19) dX4_readLine_37 mX4_74 (zc_k1 zc_s1) (zc_pos zc_s1 rfl) (by decide) (Nat.le_of_ble_eq_true rfl) (Nat.le_refl _) (fun σ37 pσ37 => ?_)
    obtain ⟨hσ37, hfσ37, pσ37⟩ := pσ37
    have hFσ37 := zc_Fc hfσ37 rfl hFσ19
    have t11 := zc_g1_3 hσ19 zc_s1
    have t12 := zc_g1_2 hσ37 zc_s1
    refine zr_iconst (pc := 40) hV (-1) dX4_readLine_40 rfl ?_
    have t13 := zc_g1_2 hσ37 zc_s1
    exact zr_iret (pc := 41) hV dX4_readLine_41 rfl rfl ⟨_, rfl, ⟨by decide, by decide⟩, hσ37, hFσ37, (by omega), (show ((∀ i, 0 ≤ i → i < σ 3 3 → σ (σ 10 i) 0 ≠ (zt_na (σ 2) (zt_z0 (σ 2) (σ 1 1)) (zt_n0 (σ 2) (σ 1 1)))) ∧ ((-1) : Int) < 0 ∧ σ37 1 2 = (zt_z0 (σ 2) (σ 1 1))) ∨ (∃ o, 0 ≤ o ∧ o < σ 3 3 ∧ σ (σ 10 o) 0 = (zt_na (σ 2) (zt_z0 (σ 2) (σ 1 1)) (zt_n0 (σ 2) (σ 1 1))) ∧ (∀ i, 0 ≤ i → i < o → σ (σ 10 i) 0 ≠ (zt_na (σ 2) (zt_z0 (σ 2) (σ 1 1)) (zt_n0 (σ 2) (σ 1 1)))) ∧ zu_lq (zu_cln σ (σ 10 o) (σ 2) (σ 1 1) 4) (σ 2) (σ 1 1) (zu_cbt σ (σ 10 o) (σ 2) (σ 1 1) 4) ((-1) : Int) (σ37 1 2)) from (Or.inl ⟨fun i h0 h1 => by rw [← dc i h0 (by omega), ← r19v]; exact (pr22.2.1 nil) i h0 (by rw [d3]; exact h1), by omega, by have q : σ19 1 3 = (zt_z0 (σ 2) (σ 1 1)) := pσ19.2.1; omega⟩))⟩
  · rw [zq_nr_p c10]
    have kr25 : zc_kd r25 = 4 := pr25.1 (by omega)
    have por25 := zc_pos kr25 rfl
    refine zr_ifnonnull (pc := 30) hV 42 dX4_readLine_30 (by decide) ?_
    show V 42 [some (ZR 132), some (ZR r25), none, none, none, none] [] 284 σ19
    have u25 := pr25.2.1 (by omega)
    have e25 : r25 = σ 10 r22 := by rw [u25.2.2]; exact hFσ19 10 r22 (zc_out_ar zc_s10 rfl)
    have nm22 : σ (σ 10 r22) 0 = (zt_na (σ 2) (zt_z0 (σ 2) (σ 1 1)) (zt_n0 (σ 2) (σ 1 1))) := by rw [← dc r22 u25.1 (by omega), ← r19v]; exact (pr22.2.2 u25.1).1
    have lst22 : zq_hid (∀ i, 0 ≤ i → i < r22 → σ (σ 10 i) 0 ≠ (zt_na (σ 2) (zt_z0 (σ 2) (σ 1 1)) (zt_n0 (σ 2) (σ 1 1)))) := fun i h0 h1 => by rw [← dc i h0 (by omega), ← r19v]; exact (pr22.2.2 u25.1).2 i h0 h1
    refine zr_aload_n (pc := 42) hV dX4_readLine_42 rfl rfl ?_
    refine zr_getI (pc := 43) hV 2 dX4_readLine_43 fX4_89 rfl rfl (zc_k4 kr25) (zc_pos kr25 rfl) ?_
    have t14 := zc_g4_2 hσ19 kr25
    have t15 : σ19 r25 2 = σ4 r25 2 := hfσ19 _ _ (zc_out_at kr25 rfl)
    have t16 : σ4 r25 2 = σ r25 2 := hfσ4 _ _ (zc_out_at kr25 rfl)
    refine zr_istore_n (pc := 46) hV [some (ZR 132), some (ZR r25), some (ZI (σ19 r25 2)), none, none, none] dX4_readLine_46 rfl (by decide) rfl rfl ?_
    refine zr_iconst (pc := 47) hV 1 dX4_readLine_47 rfl ?_
    refine zr_istore_n (pc := 48) hV [some (ZR 132), some (ZR r25), some (ZI (σ19 r25 2)), some (ZI 1), none, none] dX4_readLine_48 rfl (by decide) rfl rfl ?_
    refine zr_iconst (pc := 49) hV 0 dX4_readLine_49 rfl ?_
    refine zr_istore (pc := 50) hV [some (ZR 132), some (ZR r25), some (ZI (σ19 r25 2)), some (ZI 1), some (ZI 0), none] dX4_readLine_50 (by decide) rfl rfl ?_
    have L52 : ∀ (fuel : Nat) (x2_52 : Int) (x3_52 : Int) (x4_52 : Int) (σ_52 : zq_S), (0 ≤ x2_52 ∧ x2_52 ≤ 4095) → (0 ≤ x3_52 ∧ x3_52 ≤ 1) → (0 ≤ x4_52 ∧ x4_52 ≤ 4) → (zc_T σ_52) → (zc_Fr [(1, 2), (1, 3)] σ σ_52) → (σ_52 1 2 = (zu_cln σ r25 (σ 2) (σ 1 1) x4_52).1) → ((zu_cln σ r25 (σ 2) (σ 1 1) x4_52).2 = true) → (zq_hid ((x3_52 = 1 → zu_an (zu_cH σ r25) x4_52 = false) ∧ (x3_52 = 0 → zu_an (zu_cH σ r25) x4_52 = true))) → (x2_52 = zu_cbt σ r25 (σ 2) (σ 1 1) x4_52) → 4 - x4_52 < (fuel : Int) → V 52 [some (ZR 132), some (ZR r25), some (ZI x2_52), some (ZI x3_52), some (ZI x4_52), none] [] 284 σ_52 := by
      intro fuel
      induction fuel with
      | zero =>
        intro x2_52 x3_52 x4_52 σ_52 hx2_52 hx3_52 hx4_52 hσ_52 hFσ_52 hi52_0 hi52_1 hi52_2 hi52_3 hm52
        exfalso; omega
      | succ fuel ih =>
        intro x2_52 x3_52 x4_52 σ_52 hx2_52 hx3_52 hx4_52 hσ_52 hFσ_52 hi52_0 hi52_1 hi52_2 hi52_3 hm52
        have ih52 := ih
        show V 52 [some (ZR 132), some (ZR r25), some (ZI x2_52), some (ZI x3_52), some (ZI x4_52), none] [] 284 σ_52
        refine zr_iload (pc := 52) hV dX4_readLine_52 rfl ?_
        refine zr_iconst (pc := 54) hV 3 dX4_readLine_54 rfl ?_
        refine zr_icmp_gt (pc := 55) hV 132 dX4_readLine_55 (by decide) (by omega) ⟨by decide, by decide⟩ (fun c17 => ?_) (fun c17 => ?_)
        · show V 132 [some (ZR 132), some (ZR r25), some (ZI x2_52), some (ZI x3_52), some (ZI x4_52), none] [] 284 σ_52
          have ok4 : (zu_cln σ r25 (σ 2) (σ 1 1) 4).2 = true := by rw [show (4 : Int) = x4_52 by omega]; exact hi52_1
          have bt4 : x2_52 = zu_cbt σ r25 (σ 2) (σ 1 1) 4 := by rw [show (4 : Int) = x4_52 by omega]; exact hi52_3
          have p4 : σ_52 1 2 = (zu_cln σ r25 (σ 2) (σ 1 1) 4).1 := by rw [show (4 : Int) = x4_52 by omega]; exact hi52_0
          refine zr_aload_n (pc := 132) hV dX4_readLine_132 rfl rfl ?_
          refine zr_getR (pc := 133) hV 0 1 dX4_readLine_133 fX4_15 rfl rfl (zc_k132 zc_s132) (zc_pos zc_s132 rfl) (zc_g132_0 hσ_52 zc_s132) (by decide) ?_
          refine zr_callVi (pc := 136) hV [] (st := []) (c_X8_next_2 (σ := σ_52) hσ_52) dX4_readLine_136 mX4_45 (zc_k1 zc_s1) (zc_pos zc_s1 rfl) (by decide) (Nat.le_of_ble_eq_true rfl) (Nat.le_refl _) (fun r136 σ136 hr136 pσ136 => ?_)
          obtain ⟨hσ136, hfσ136, pσ136⟩ := pσ136
          have hFσ136 := zc_Fc hfσ136 rfl hFσ_52
          have t18 := zc_g1_1 hσ_52 zc_s1
          have t19 : σ_52 1 1 = σ 1 1 := hFσ_52 _ _ (zc_out_at zc_s1 rfl)
          have t20 := zc_g1_2 hσ_52 zc_s1
          have Tσ_52 : σ_52 2 = σ 2 := funext (fun i => hFσ_52 2 i (zc_out_ar zc_s2 rfl))
          have Nσ_52 : σ_52 1 1 = σ 1 1 := hFσ_52 1 1 (zc_out_at zc_s1 rfl)
          rw [Tσ_52, Nσ_52] at pσ136
          have t21 := zc_g1_2 hσ136 zc_s1
          rw [p4] at pσ136
          refine zr_iconst (pc := 139) hV (-1) dX4_readLine_139 rfl ?_
          refine zr_icmp_ne (pc := 140) hV 147 dX4_readLine_140 (by decide) (by omega) ⟨by decide, by decide⟩ (fun c22 => ?_) (fun c22 => ?_)
          · show V 147 [some (ZR 132), some (ZR r25), some (ZI x2_52), some (ZI x3_52), some (ZI x4_52), none] [] 284 σ136
            refine zr_iconst (pc := 147) hV (-1) dX4_readLine_147 rfl ?_
            show V 148 [some (ZR 132), some (ZR r25), some (ZI x2_52), some (ZI x3_52), some (ZI x4_52), none] [ZI (-1)] 284 σ136
            have t23 := zc_g1_2 hσ136 zc_s1
            exact zr_iret (pc := 148) hV dX4_readLine_148 rfl rfl ⟨_, rfl, ⟨by decide, by decide⟩, hσ136, hFσ136, (by omega), (show ((∀ i, 0 ≤ i → i < σ 3 3 → σ (σ 10 i) 0 ≠ (zt_na (σ 2) (zt_z0 (σ 2) (σ 1 1)) (zt_n0 (σ 2) (σ 1 1)))) ∧ ((-1) : Int) < 0 ∧ σ136 1 2 = (zt_z0 (σ 2) (σ 1 1))) ∨ (∃ o, 0 ≤ o ∧ o < σ 3 3 ∧ σ (σ 10 o) 0 = (zt_na (σ 2) (zt_z0 (σ 2) (σ 1 1)) (zt_n0 (σ 2) (σ 1 1))) ∧ (∀ i, 0 ≤ i → i < o → σ (σ 10 i) 0 ≠ (zt_na (σ 2) (zt_z0 (σ 2) (σ 1 1)) (zt_n0 (σ 2) (σ 1 1)))) ∧ zu_lq (zu_cln σ (σ 10 o) (σ 2) (σ 1 1) 4) (σ 2) (σ 1 1) (zu_cbt σ (σ 10 o) (σ 2) (σ 1 1) 4) ((-1) : Int) (σ136 1 2)) from (Or.inr ⟨r22, u25.1, by omega, nm22, lst22, by rw [← e25]; exact ⟨fun h => absurd (ok4.symm.trans h) (by decide), fun _ => ⟨fun _ => ⟨by omega, by omega⟩, fun h => absurd h (by omega)⟩⟩⟩))⟩
          · show V 143 [some (ZR 132), some (ZR r25), some (ZI x2_52), some (ZI x3_52), some (ZI x4_52), none] [] 284 σ136
            refine zr_iload_n (pc := 143) hV dX4_readLine_143 rfl rfl ?_
            refine zr_goto (pc := 144) hV 148 dX4_readLine_144 (by decide) ?_
            show V 148 [some (ZR 132), some (ZR r25), some (ZI x2_52), some (ZI x3_52), some (ZI x4_52), none] [ZI x2_52] 284 σ136
            have t24 := zc_g1_2 hσ136 zc_s1
            exact zr_iret (pc := 148) hV dX4_readLine_148 rfl rfl ⟨_, rfl, (by omega), hσ136, hFσ136, (by omega), (show ((∀ i, 0 ≤ i → i < σ 3 3 → σ (σ 10 i) 0 ≠ (zt_na (σ 2) (zt_z0 (σ 2) (σ 1 1)) (zt_n0 (σ 2) (σ 1 1)))) ∧ x2_52 < 0 ∧ σ136 1 2 = (zt_z0 (σ 2) (σ 1 1))) ∨ (∃ o, 0 ≤ o ∧ o < σ 3 3 ∧ σ (σ 10 o) 0 = (zt_na (σ 2) (zt_z0 (σ 2) (σ 1 1)) (zt_n0 (σ 2) (σ 1 1))) ∧ (∀ i, 0 ≤ i → i < o → σ (σ 10 i) 0 ≠ (zt_na (σ 2) (zt_z0 (σ 2) (σ 1 1)) (zt_n0 (σ 2) (σ 1 1)))) ∧ zu_lq (zu_cln σ (σ 10 o) (σ 2) (σ 1 1) 4) (σ 2) (σ 1 1) (zu_cbt σ (σ 10 o) (σ 2) (σ 1 1) 4) x2_52 (σ136 1 2)) from (Or.inr ⟨r22, u25.1, by omega, nm22, lst22, by rw [← e25]; exact ⟨fun h => absurd (ok4.symm.trans h) (by decide), fun _ => ⟨fun h => absurd (by omega) h, fun _ => ⟨by omega, bt4⟩⟩⟩⟩))⟩
        · show V 58 [some (ZR 132), some (ZR r25), some (ZI x2_52), some (ZI x3_52), some (ZI x4_52), none] [] 284 σ_52
          refine zr_aload_n (pc := 58) hV dX4_readLine_58 rfl rfl ?_
          refine zr_iload (pc := 59) hV dX4_readLine_59 rfl ?_
          refine zr_callVp (pc := 61) hV [ZI x4_52] (st := []) (c_X3_hasField_2 (σ := σ_52) hσ_52 r25 kr25 x4_52 (by omega)) dX4_readLine_61 mX4_99 (zc_k4 kr25) (zc_pos kr25 rfl) (by decide) (Nat.le_of_ble_eq_true rfl) (Nat.le_refl _) (fun r61 hr61 pr61 => ?_)
          have fh : σ_52 (r25 + 1) x4_52 = σ (r25 + 1) x4_52 := hFσ_52 _ _ (zc_out_ar (zc_p4_1 kr25) rfl)
          rw [fh] at pr61
          refine zr_if_ne (pc := 64) hV 70 dX4_readLine_64 (by decide) (by omega) (fun c25 => ?_) (fun c25 => ?_)
          · show V 70 [some (ZR 132), some (ZR r25), some (ZI x2_52), some (ZI x3_52), some (ZI x4_52), none] [] 284 σ_52
            have yH : zu_cH σ r25 x4_52 = true := decide_eq_true (by omega)
            refine zr_iload_n (pc := 70) hV dX4_readLine_70 rfl rfl ?_
            refine zr_if_ne (pc := 71) hV 88 dX4_readLine_71 (by decide) (by omega) (fun c26 => ?_) (fun c26 => ?_)
            · show V 88 [some (ZR 132), some (ZR r25), some (ZI x2_52), some (ZI x3_52), some (ZI x4_52), none] [] 284 σ_52
              refine zr_aload_n (pc := 88) hV dX4_readLine_88 rfl rfl ?_
              refine zr_getR (pc := 89) hV 0 1 dX4_readLine_89 fX4_15 rfl rfl (zc_k132 zc_s132) (zc_pos zc_s132 rfl) (zc_g132_0 hσ_52 zc_s132) (by decide) ?_
              refine zr_iconst (pc := 92) hV 1 dX4_readLine_92 rfl ?_
              refine zr_aload_n (pc := 93) hV dX4_readLine_93 rfl rfl ?_
              refine zr_iload (pc := 94) hV dX4_readLine_94 rfl ?_
              refine zr_callVp (pc := 96) hV [ZI x4_52] (st := [ZI 1, ZR 1]) (c_X3_fieldBits_2 (σ := σ_52) hσ_52 r25 kr25 x4_52 (by omega)) dX4_readLine_96 mX4_102 (zc_k4 kr25) (zc_pos kr25 rfl) (by decide) (Nat.le_of_ble_eq_true rfl) (Nat.le_refl _) (fun r96 hr96 pr96 => ?_)
              have fb : σ_52 (r25 + 1) x4_52 = σ (r25 + 1) x4_52 := hFσ_52 _ _ (zc_out_ar (zc_p4_1 kr25) rfl)
              have z96 : r96 = zt_bc (σ (r25 + 1) x4_52) := by rw [← fb]; exact pr96.2
              have z968 : r96 ≤ 8 := by rw [z96, e25]; exact q0 r22 x4_52 u25.1 (by omega) (by omega) (by omega)
              have zp8 := zx_p2_le (m := r96) (n := 8) z968
              have zp88 : zx_p2 8 = 256 := rfl
              refine zr_ishl (pc := 99) hV dX4_readLine_99 ?_
              have t27 := zx_shl_one (y := r96) 8 256 (by decide) (by decide) (by omega)
              refine zr_iconst (pc := 100) hV 1 dX4_readLine_100 rfl ?_
              refine zr_isub (pc := 101) hV dX4_readLine_101 ?_
              refine zr_callVi (pc := 102) hV [ZI ((zq_shl 1 r96) - 1)] (st := []) (c_X8_takeNumber_2 (σ := σ_52) hσ_52 ((zq_shl 1 r96) - 1) (by omega)) dX4_readLine_102 mX4_137 (zc_k1 zc_s1) (zc_pos zc_s1 rfl) (by decide) (Nat.le_of_ble_eq_true rfl) (Nat.le_refl _) (fun r102 σ102 hr102 pσ102 => ?_)
              obtain ⟨hσ102, hfσ102, pσ102⟩ := pσ102
              have hFσ102 := zc_Fc hfσ102 rfl hFσ_52
              have t28 := zc_g1_1 hσ_52 zc_s1
              have t29 : σ_52 1 1 = σ 1 1 := hFσ_52 _ _ (zc_out_at zc_s1 rfl)
              have t30 := zc_g1_2 hσ_52 zc_s1
              have Tσ_52 : σ_52 2 = σ 2 := funext (fun i => hFσ_52 2 i (zc_out_ar zc_s2 rfl))
              have Nσ_52 : σ_52 1 1 = σ 1 1 := hFσ_52 1 1 (zc_out_at zc_s1 rfl)
              rw [Tσ_52, Nσ_52] at pσ102
              have t31 := zc_g1_2 hσ102 zc_s1
              have zl : zu_l1 (zu_cH σ r25) (σ 2) (σ 1 1) (zu_cln σ r25 (σ 2) (σ 1 1) x4_52).1 x4_52 = σ_52 1 2 := by rw [zu_l1_n _ (fun q => absurd ((hi52_2.1 (by omega)).symm.trans q) (by decide))]; omega
              have zm : (zq_shl 1 r96) - 1 = zu_cX σ r25 x4_52 := by unfold zu_cX; rw [← z96]; omega
              have zV : zu_clv σ r25 (σ 2) (σ 1 1) x4_52 = r102 := by show zt_nuR (σ 2) (σ 1 1) (zu_cX σ r25 x4_52) (zu_l1 (zu_cH σ r25) (σ 2) (σ 1 1) (zu_cln σ r25 (σ 2) (σ 1 1) x4_52).1 x4_52) = r102; rw [zl, ← zm]; omega
              have zN : (zu_cln σ r25 (σ 2) (σ 1 1) (x4_52 + 1)) = (σ102 1 2, decide (0 ≤ r102)) := by rw [← zV]; unfold zu_cln; rw [zu_ln_m (by omega) hi52_1 yH (fun q => absurd ((hi52_2.1 (by omega)).symm.trans q.1) (by decide))]; refine Prod.ext ?_ rfl; show zt_nuA (σ 2) (σ 1 1) (zu_cX σ r25 x4_52) (zu_l1 (zu_cH σ r25) (σ 2) (σ 1 1) (zu_cln σ r25 (σ 2) (σ 1 1) x4_52).1 x4_52) = σ102 1 2; rw [zl, ← zm]; omega
              refine zr_istore (pc := 105) hV [some (ZR 132), some (ZR r25), some (ZI x2_52), some (ZI x3_52), some (ZI x4_52), some (ZI r102)] dX4_readLine_105 (by decide) rfl rfl ?_
              refine zr_iload (pc := 107) hV dX4_readLine_107 rfl ?_
              refine zr_if_ge (pc := 109) hV 114 dX4_readLine_109 (by decide) (by omega) (fun c32 => ?_) (fun c32 => ?_)
              · show V 114 [some (ZR 132), some (ZR r25), some (ZI x2_52), some (ZI x3_52), some (ZI x4_52), some (ZI r102)] [] 284 σ102
                refine zr_aload_n (pc := 114) hV dX4_readLine_114 rfl rfl ?_
                refine zr_iload_n (pc := 115) hV dX4_readLine_115 rfl rfl ?_
                refine zr_iload (pc := 116) hV dX4_readLine_116 rfl ?_
                refine zr_iload (pc := 118) hV dX4_readLine_118 rfl ?_
                refine zr_callVp (pc := 120) hV [ZI x2_52, ZI x4_52, ZI r102] (st := []) (c_X3_withField_2 (σ := σ102) hσ102 r25 kr25 x2_52 x4_52 r102 (by omega) (by omega) (by omega)) dX4_readLine_120 mX4_150 (zc_k4 kr25) (zc_pos kr25 rfl) (by decide) (Nat.le_of_ble_eq_true rfl) (Nat.le_refl _) (fun r120 hr120 pr120 => ?_)
                have zW : r120 = (zu_wf (σ (r25 + 1) x4_52) x2_52 r102 12).1 := by rw [← (show σ102 (r25 + 1) x4_52 = σ (r25 + 1) x4_52 from hFσ102 _ _ (zc_out_ar (zc_p4_1 kr25) rfl))]; exact pr120.2
                refine zr_istore_n (pc := 123) hV [some (ZR 132), some (ZR r25), some (ZI r120), some (ZI x3_52), some (ZI x4_52), some (ZI r102)] dX4_readLine_123 rfl (by decide) rfl rfl ?_
                refine zr_iconst (pc := 124) hV 0 dX4_readLine_124 rfl ?_
                refine zr_istore_n (pc := 125) hV [some (ZR 132), some (ZR r25), some (ZI r120), some (ZI 0), some (ZI x4_52), some (ZI r102)] dX4_readLine_125 rfl (by decide) rfl rfl ?_
                show V 126 [some (ZR 132), some (ZR r25), some (ZI r120), some (ZI 0), some (ZI x4_52), some (ZI r102)] [] 284 σ102
                refine zr_iinc (pc := 126) hV [some (ZR 132), some (ZR r25), some (ZI r120), some (ZI 0), some (ZI (x4_52 + 1)), some (ZI r102)] (x4_52 + 1) dX4_readLine_126 rfl rfl (by decide) rfl rfl ?_
                refine zr_goto (pc := 129) hV 52 dX4_readLine_129 (by decide) ?_
                have t33 := zc_g1_2 hσ102 zc_s1
                refine zr_sub (pc := 52) hV [some (ZR 132), some (ZR r25), some (ZI r120), some (ZI 0), some (ZI (x4_52 + 1)), none] (⟨rfl, rfl, rfl, rfl, rfl, trivial⟩) ?_
                exact ih52 r120 0 (x4_52 + 1) σ102 (by omega) (by omega) (by omega) hσ102 hFσ102 (by rw [zN]) (by rw [zN]; exact decide_eq_true (by omega)) ⟨fun h => absurd h (by omega), fun _ => zu_an_y (by omega) yH⟩ (by unfold zu_cbt; rw [zu_bt_y (by omega) yH]; show _ = (zu_wf (σ (r25 + 1) x4_52) (zu_cbt σ r25 (σ 2) (σ 1 1) x4_52) (zu_clv σ r25 (σ 2) (σ 1 1) x4_52) 12).1; rw [zV, ← hi52_3]; exact zW) (by omega)
              · show V 112 [some (ZR 132), some (ZR r25), some (ZI x2_52), some (ZI x3_52), some (ZI x4_52), some (ZI r102)] [] 284 σ102
                have zF : (zu_cln σ r25 (σ 2) (σ 1 1) 4) = (σ102 1 2, false) := by have q := zN; rw [decide_eq_false (show ¬ 0 ≤ r102 by omega)] at q; unfold zu_cln at q ⊢; rw [zu_ln_f (k := x4_52 + 1) (by omega) (by rw [q]) (by omega)]; exact q
                refine zr_iconst (pc := 112) hV (-1) dX4_readLine_112 rfl ?_
                have t34 := zc_g1_2 hσ102 zc_s1
                exact zr_iret (pc := 113) hV dX4_readLine_113 rfl rfl ⟨_, rfl, ⟨by decide, by decide⟩, hσ102, hFσ102, (by omega), (show ((∀ i, 0 ≤ i → i < σ 3 3 → σ (σ 10 i) 0 ≠ (zt_na (σ 2) (zt_z0 (σ 2) (σ 1 1)) (zt_n0 (σ 2) (σ 1 1)))) ∧ ((-1) : Int) < 0 ∧ σ102 1 2 = (zt_z0 (σ 2) (σ 1 1))) ∨ (∃ o, 0 ≤ o ∧ o < σ 3 3 ∧ σ (σ 10 o) 0 = (zt_na (σ 2) (zt_z0 (σ 2) (σ 1 1)) (zt_n0 (σ 2) (σ 1 1))) ∧ (∀ i, 0 ≤ i → i < o → σ (σ 10 i) 0 ≠ (zt_na (σ 2) (zt_z0 (σ 2) (σ 1 1)) (zt_n0 (σ 2) (σ 1 1)))) ∧ zu_lq (zu_cln σ (σ 10 o) (σ 2) (σ 1 1) 4) (σ 2) (σ 1 1) (zu_cbt σ (σ 10 o) (σ 2) (σ 1 1) 4) ((-1) : Int) (σ102 1 2)) from (Or.inr ⟨r22, u25.1, by omega, nm22, lst22, by rw [← e25]; exact ⟨fun _ => ⟨by omega, by rw [zF]⟩, fun h => absurd (show false = true by rw [zF] at h; exact h) (by decide)⟩⟩))⟩
            · show V 74 [some (ZR 132), some (ZR r25), some (ZI x2_52), some (ZI x3_52), some (ZI x4_52), none] [] 284 σ_52
              refine zr_aload_n (pc := 74) hV dX4_readLine_74 rfl rfl ?_
              refine zr_getR (pc := 75) hV 0 1 dX4_readLine_75 fX4_15 rfl rfl (zc_k132 zc_s132) (zc_pos zc_s132 rfl) (zc_g132_0 hσ_52 zc_s132) (by decide) ?_
              refine zr_bipush (pc := 78) hV 44 dX4_readLine_78 (by decide) ?_
              refine zr_callVi (pc := 80) hV [ZI 44] (st := []) (c_X8_takes_2 (σ := σ_52) hσ_52 44 (by omega)) dX4_readLine_80 mX4_27 (zc_k1 zc_s1) (zc_pos zc_s1 rfl) (by decide) (Nat.le_of_ble_eq_true rfl) (Nat.le_refl _) (fun r80 σ80 hr80 pσ80 => ?_)
              obtain ⟨hσ80, hfσ80, pσ80⟩ := pσ80
              have hFσ80 := zc_Fc hfσ80 rfl hFσ_52
              have t35 := zc_g1_1 hσ_52 zc_s1
              have t36 : σ_52 1 1 = σ 1 1 := hFσ_52 _ _ (zc_out_at zc_s1 rfl)
              have t37 := zc_g1_2 hσ_52 zc_s1
              have Tσ_52 : σ_52 2 = σ 2 := funext (fun i => hFσ_52 2 i (zc_out_ar zc_s2 rfl))
              have Nσ_52 : σ_52 1 1 = σ 1 1 := hFσ_52 1 1 (zc_out_at zc_s1 rfl)
              rw [Tσ_52, Nσ_52] at pσ80
              have t38 := zc_g1_2 hσ80 zc_s1
              rw [hi52_0] at pσ80
              refine zr_if_ne (pc := 83) hV 88 dX4_readLine_83 (by decide) (by omega) (fun c39 => ?_) (fun c39 => ?_)
              · show V 88 [some (ZR 132), some (ZR r25), some (ZI x2_52), some (ZI x3_52), some (ZI x4_52), none] [] 284 σ80
                refine zr_aload_n (pc := 88) hV dX4_readLine_88 rfl rfl ?_
                refine zr_getR (pc := 89) hV 0 1 dX4_readLine_89 fX4_15 rfl rfl (zc_k132 zc_s132) (zc_pos zc_s132 rfl) (zc_g132_0 hσ80 zc_s132) (by decide) ?_
                refine zr_iconst (pc := 92) hV 1 dX4_readLine_92 rfl ?_
                refine zr_aload_n (pc := 93) hV dX4_readLine_93 rfl rfl ?_
                refine zr_iload (pc := 94) hV dX4_readLine_94 rfl ?_
                refine zr_callVp (pc := 96) hV [ZI x4_52] (st := [ZI 1, ZR 1]) (c_X3_fieldBits_2 (σ := σ80) hσ80 r25 kr25 x4_52 (by omega)) dX4_readLine_96 mX4_102 (zc_k4 kr25) (zc_pos kr25 rfl) (by decide) (Nat.le_of_ble_eq_true rfl) (Nat.le_refl _) (fun r96 hr96 pr96 => ?_)
                have fb : σ80 (r25 + 1) x4_52 = σ (r25 + 1) x4_52 := hFσ80 _ _ (zc_out_ar (zc_p4_1 kr25) rfl)
                have z96 : r96 = zt_bc (σ (r25 + 1) x4_52) := by rw [← fb]; exact pr96.2
                have z968 : r96 ≤ 8 := by rw [z96, e25]; exact q0 r22 x4_52 u25.1 (by omega) (by omega) (by omega)
                have zp8 := zx_p2_le (m := r96) (n := 8) z968
                have zp88 : zx_p2 8 = 256 := rfl
                refine zr_ishl (pc := 99) hV dX4_readLine_99 ?_
                have t40 := zx_shl_one (y := r96) 8 256 (by decide) (by decide) (by omega)
                refine zr_iconst (pc := 100) hV 1 dX4_readLine_100 rfl ?_
                refine zr_isub (pc := 101) hV dX4_readLine_101 ?_
                refine zr_callVi (pc := 102) hV [ZI ((zq_shl 1 r96) - 1)] (st := []) (c_X8_takeNumber_2 (σ := σ80) hσ80 ((zq_shl 1 r96) - 1) (by omega)) dX4_readLine_102 mX4_137 (zc_k1 zc_s1) (zc_pos zc_s1 rfl) (by decide) (Nat.le_of_ble_eq_true rfl) (Nat.le_refl _) (fun r102 σ102 hr102 pσ102 => ?_)
                obtain ⟨hσ102, hfσ102, pσ102⟩ := pσ102
                have hFσ102 := zc_Fc hfσ102 rfl hFσ80
                have t41 := zc_g1_1 hσ80 zc_s1
                have t42 : σ80 1 1 = σ_52 1 1 := hfσ80 _ _ (zc_out_at zc_s1 rfl)
                have t43 : σ_52 1 1 = σ 1 1 := hFσ_52 _ _ (zc_out_at zc_s1 rfl)
                have t44 := zc_g1_2 hσ80 zc_s1
                have Tσ80 : σ80 2 = σ 2 := funext (fun i => hFσ80 2 i (zc_out_ar zc_s2 rfl))
                have Nσ80 : σ80 1 1 = σ 1 1 := hFσ80 1 1 (zc_out_at zc_s1 rfl)
                rw [Tσ80, Nσ80] at pσ102
                have t45 := zc_g1_2 hσ102 zc_s1
                have zl : zu_l1 (zu_cH σ r25) (σ 2) (σ 1 1) (zu_cln σ r25 (σ 2) (σ 1 1) x4_52).1 x4_52 = σ80 1 2 := by rw [zu_l1_y _ (hi52_2.2 (by omega))]; omega
                have zm : (zq_shl 1 r96) - 1 = zu_cX σ r25 x4_52 := by unfold zu_cX; rw [← z96]; omega
                have zV : zu_clv σ r25 (σ 2) (σ 1 1) x4_52 = r102 := by show zt_nuR (σ 2) (σ 1 1) (zu_cX σ r25 x4_52) (zu_l1 (zu_cH σ r25) (σ 2) (σ 1 1) (zu_cln σ r25 (σ 2) (σ 1 1) x4_52).1 x4_52) = r102; rw [zl, ← zm]; omega
                have zN : (zu_cln σ r25 (σ 2) (σ 1 1) (x4_52 + 1)) = (σ102 1 2, decide (0 ≤ r102)) := by rw [← zV]; unfold zu_cln; rw [zu_ln_m (by omega) hi52_1 yH (fun q => absurd (show zt_tkR (σ 2) (σ 1 1) 44 (zu_cln σ r25 (σ 2) (σ 1 1) x4_52).1 = 0 from q.2) (by omega))]; refine Prod.ext ?_ rfl; show zt_nuA (σ 2) (σ 1 1) (zu_cX σ r25 x4_52) (zu_l1 (zu_cH σ r25) (σ 2) (σ 1 1) (zu_cln σ r25 (σ 2) (σ 1 1) x4_52).1 x4_52) = σ102 1 2; rw [zl, ← zm]; omega
                refine zr_istore (pc := 105) hV [some (ZR 132), some (ZR r25), some (ZI x2_52), some (ZI x3_52), some (ZI x4_52), some (ZI r102)] dX4_readLine_105 (by decide) rfl rfl ?_
                refine zr_iload (pc := 107) hV dX4_readLine_107 rfl ?_
                refine zr_if_ge (pc := 109) hV 114 dX4_readLine_109 (by decide) (by omega) (fun c46 => ?_) (fun c46 => ?_)
                · show V 114 [some (ZR 132), some (ZR r25), some (ZI x2_52), some (ZI x3_52), some (ZI x4_52), some (ZI r102)] [] 284 σ102
                  refine zr_aload_n (pc := 114) hV dX4_readLine_114 rfl rfl ?_
                  refine zr_iload_n (pc := 115) hV dX4_readLine_115 rfl rfl ?_
                  refine zr_iload (pc := 116) hV dX4_readLine_116 rfl ?_
                  refine zr_iload (pc := 118) hV dX4_readLine_118 rfl ?_
                  refine zr_callVp (pc := 120) hV [ZI x2_52, ZI x4_52, ZI r102] (st := []) (c_X3_withField_2 (σ := σ102) hσ102 r25 kr25 x2_52 x4_52 r102 (by omega) (by omega) (by omega)) dX4_readLine_120 mX4_150 (zc_k4 kr25) (zc_pos kr25 rfl) (by decide) (Nat.le_of_ble_eq_true rfl) (Nat.le_refl _) (fun r120 hr120 pr120 => ?_)
                  have zW : r120 = (zu_wf (σ (r25 + 1) x4_52) x2_52 r102 12).1 := by rw [← (show σ102 (r25 + 1) x4_52 = σ (r25 + 1) x4_52 from hFσ102 _ _ (zc_out_ar (zc_p4_1 kr25) rfl))]; exact pr120.2
                  refine zr_istore_n (pc := 123) hV [some (ZR 132), some (ZR r25), some (ZI r120), some (ZI x3_52), some (ZI x4_52), some (ZI r102)] dX4_readLine_123 rfl (by decide) rfl rfl ?_
                  refine zr_iconst (pc := 124) hV 0 dX4_readLine_124 rfl ?_
                  refine zr_istore_n (pc := 125) hV [some (ZR 132), some (ZR r25), some (ZI r120), some (ZI 0), some (ZI x4_52), some (ZI r102)] dX4_readLine_125 rfl (by decide) rfl rfl ?_
                  show V 126 [some (ZR 132), some (ZR r25), some (ZI r120), some (ZI 0), some (ZI x4_52), some (ZI r102)] [] 284 σ102
                  refine zr_iinc (pc := 126) hV [some (ZR 132), some (ZR r25), some (ZI r120), some (ZI 0), some (ZI (x4_52 + 1)), some (ZI r102)] (x4_52 + 1) dX4_readLine_126 rfl rfl (by decide) rfl rfl ?_
                  refine zr_goto (pc := 129) hV 52 dX4_readLine_129 (by decide) ?_
                  have t47 := zc_g1_2 hσ102 zc_s1
                  refine zr_sub (pc := 52) hV [some (ZR 132), some (ZR r25), some (ZI r120), some (ZI 0), some (ZI (x4_52 + 1)), none] (⟨rfl, rfl, rfl, rfl, rfl, trivial⟩) ?_
                  exact ih52 r120 0 (x4_52 + 1) σ102 (by omega) (by omega) (by omega) hσ102 hFσ102 (by rw [zN]) (by rw [zN]; exact decide_eq_true (by omega)) ⟨fun h => absurd h (by omega), fun _ => zu_an_y (by omega) yH⟩ (by unfold zu_cbt; rw [zu_bt_y (by omega) yH]; show _ = (zu_wf (σ (r25 + 1) x4_52) (zu_cbt σ r25 (σ 2) (σ 1 1) x4_52) (zu_clv σ r25 (σ 2) (σ 1 1) x4_52) 12).1; rw [zV, ← hi52_3]; exact zW) (by omega)
                · show V 112 [some (ZR 132), some (ZR r25), some (ZI x2_52), some (ZI x3_52), some (ZI x4_52), some (ZI r102)] [] 284 σ102
                  have zF : (zu_cln σ r25 (σ 2) (σ 1 1) 4) = (σ102 1 2, false) := by have q := zN; rw [decide_eq_false (show ¬ 0 ≤ r102 by omega)] at q; unfold zu_cln at q ⊢; rw [zu_ln_f (k := x4_52 + 1) (by omega) (by rw [q]) (by omega)]; exact q
                  refine zr_iconst (pc := 112) hV (-1) dX4_readLine_112 rfl ?_
                  have t48 := zc_g1_2 hσ102 zc_s1
                  exact zr_iret (pc := 113) hV dX4_readLine_113 rfl rfl ⟨_, rfl, ⟨by decide, by decide⟩, hσ102, hFσ102, (by omega), (show ((∀ i, 0 ≤ i → i < σ 3 3 → σ (σ 10 i) 0 ≠ (zt_na (σ 2) (zt_z0 (σ 2) (σ 1 1)) (zt_n0 (σ 2) (σ 1 1)))) ∧ ((-1) : Int) < 0 ∧ σ102 1 2 = (zt_z0 (σ 2) (σ 1 1))) ∨ (∃ o, 0 ≤ o ∧ o < σ 3 3 ∧ σ (σ 10 o) 0 = (zt_na (σ 2) (zt_z0 (σ 2) (σ 1 1)) (zt_n0 (σ 2) (σ 1 1))) ∧ (∀ i, 0 ≤ i → i < o → σ (σ 10 i) 0 ≠ (zt_na (σ 2) (zt_z0 (σ 2) (σ 1 1)) (zt_n0 (σ 2) (σ 1 1)))) ∧ zu_lq (zu_cln σ (σ 10 o) (σ 2) (σ 1 1) 4) (σ 2) (σ 1 1) (zu_cbt σ (σ 10 o) (σ 2) (σ 1 1) 4) ((-1) : Int) (σ102 1 2)) from (Or.inr ⟨r22, u25.1, by omega, nm22, lst22, by rw [← e25]; exact ⟨fun _ => ⟨by omega, by rw [zF]⟩, fun h => absurd (show false = true by rw [zF] at h; exact h) (by decide)⟩⟩))⟩
              · show V 86 [some (ZR 132), some (ZR r25), some (ZI x2_52), some (ZI x3_52), some (ZI x4_52), none] [] 284 σ80
                have zF : (zu_cln σ r25 (σ 2) (σ 1 1) 4) = (zt_tkA (σ 2) (σ 1 1) 44 (zu_cln σ r25 (σ 2) (σ 1 1) x4_52).1, false) := by have q := zu_ln_c (k := x4_52) (by omega) hi52_1 yH (hi52_2.2 (by omega)) (show zt_tkR (σ 2) (σ 1 1) 44 (zu_cln σ r25 (σ 2) (σ 1 1) x4_52).1 = 0 by omega); unfold zu_cln; rw [zu_ln_f (k := x4_52 + 1) (by omega) (by rw [q]) (by omega)]; exact q
                refine zr_iconst (pc := 86) hV (-1) dX4_readLine_86 rfl ?_
                have t49 := zc_g1_2 hσ80 zc_s1
                exact zr_iret (pc := 87) hV dX4_readLine_87 rfl rfl ⟨_, rfl, ⟨by decide, by decide⟩, hσ80, hFσ80, (by omega), (show ((∀ i, 0 ≤ i → i < σ 3 3 → σ (σ 10 i) 0 ≠ (zt_na (σ 2) (zt_z0 (σ 2) (σ 1 1)) (zt_n0 (σ 2) (σ 1 1)))) ∧ ((-1) : Int) < 0 ∧ σ80 1 2 = (zt_z0 (σ 2) (σ 1 1))) ∨ (∃ o, 0 ≤ o ∧ o < σ 3 3 ∧ σ (σ 10 o) 0 = (zt_na (σ 2) (zt_z0 (σ 2) (σ 1 1)) (zt_n0 (σ 2) (σ 1 1))) ∧ (∀ i, 0 ≤ i → i < o → σ (σ 10 i) 0 ≠ (zt_na (σ 2) (zt_z0 (σ 2) (σ 1 1)) (zt_n0 (σ 2) (σ 1 1)))) ∧ zu_lq (zu_cln σ (σ 10 o) (σ 2) (σ 1 1) 4) (σ 2) (σ 1 1) (zu_cbt σ (σ 10 o) (σ 2) (σ 1 1) 4) ((-1) : Int) (σ80 1 2)) from (Or.inr ⟨r22, u25.1, by omega, nm22, lst22, by rw [← e25]; exact ⟨fun _ => ⟨by omega, by rw [zF]; omega⟩, fun h => absurd (show false = true by rw [zF] at h; exact h) (by decide)⟩⟩))⟩
          · show V 67 [some (ZR 132), some (ZR r25), some (ZI x2_52), some (ZI x3_52), some (ZI x4_52), none] [] 284 σ_52
            refine zr_goto (pc := 67) hV 126 dX4_readLine_67 (by decide) ?_
            show V 126 [some (ZR 132), some (ZR r25), some (ZI x2_52), some (ZI x3_52), some (ZI x4_52), none] [] 284 σ_52
            refine zr_iinc (pc := 126) hV [some (ZR 132), some (ZR r25), some (ZI x2_52), some (ZI x3_52), some (ZI (x4_52 + 1)), none] (x4_52 + 1) dX4_readLine_126 rfl rfl (by decide) rfl rfl ?_
            refine zr_goto (pc := 129) hV 52 dX4_readLine_129 (by decide) ?_
            have t50 := zc_g1_2 hσ_52 zc_s1
            exact ih52 x2_52 x3_52 (x4_52 + 1) σ_52 (by omega) (by omega) (by omega) hσ_52 hFσ_52 (by unfold zu_cln; rw [zu_ln_n (by omega) (fun q => absurd (of_decide_eq_true q) (by omega))]; exact hi52_0) (by unfold zu_cln; rw [zu_ln_n (by omega) (fun q => absurd (of_decide_eq_true q) (by omega))]; exact hi52_1) (by rw [zu_an_n (by omega) (fun q => absurd (of_decide_eq_true q) (by omega))]; exact hi52_2) (by unfold zu_cbt; rw [zu_bt_n (by omega) (fun q => absurd (of_decide_eq_true q) (by omega))]; exact hi52_3) (by omega)
    have t51 := zc_g1_2 hσ19 zc_s1
    exact L52 (4 - (0 : Int) + 1 : Int).toNat (σ19 r25 2) 1 0 σ19 (by omega) (by omega) (by omega) hσ19 hFσ19 (show σ19 1 2 = (zt_p0 (σ 2) (σ 1 1)) from a19) rfl ⟨fun _ => rfl, fun h => absurd h (by omega)⟩ (hFσ19 r25 2 (zc_out_at kr25 rfl)) (by omega)
set_option maxHeartbeats 800000 in
theorem c_X11_line_3 {σ : zq_S} (hσ : zc_T σ)  (q0 : ∀ o f, 0 ≤ o → o < σ 3 3 → 0 ≤ f → f ≤ 3 → zt_bc (σ (σ 10 o + 1) f) ≤ 8) (Uσ : zc_U σ) : zq_C zc_w yX11_line cX11_line 3 (some .int) 3 68 284 284 [ZR 0] σ (zq_pi (fun r τ => zc_T τ ∧ zc_Fr [(1, 1), (1, 2), (1, 3)] σ τ ∧ (τ 1 1 = 0) ∧ zq_hid (((∀ i, 0 ≤ i → i < σ 3 3 → σ (σ 10 i) 0 ≠ (zt_na (σ 2) (zt_z0 (σ 2) (σ 1 1)) (zt_n0 (σ 2) (σ 1 1)))) ∧ r = -20 - (zt_z0 (σ 2) (σ 1 1))) ∨ (∃ o, 0 ≤ o ∧ o < σ 3 3 ∧ σ (σ 10 o) 0 = (zt_na (σ 2) (zt_z0 (σ 2) (σ 1 1)) (zt_n0 (σ 2) (σ 1 1))) ∧ (∀ i, 0 ≤ i → i < o → σ (σ 10 i) 0 ≠ (zt_na (σ 2) (zt_z0 (σ 2) (σ 1 1)) (zt_n0 (σ 2) (σ 1 1)))) ∧ zu_la (zu_cln σ (σ 10 o) (σ 2) (σ 1 1) 4) (σ 2) (σ 1 1) (zu_cbt σ (σ 10 o) (σ 2) (σ 1 1) 4) r)) ∧ zc_U τ)) := by
  refine zq_C_of (by decide) (Nat.le_refl _) (Nat.le_of_ble_eq_true rfl) [some (ZR 0), none, none] rfl (fun V hV => ?_)
  have hFσ := zc_Fr_rf [(1, 1), (1, 2), (1, 3)] σ
  show V 0 [some (ZR 0), none, none] [] 284 σ
  refine zr_aload_n (pc := 0) hV dX11_line_0 rfl rfl ?_
  refine zr_getR (pc := 1) hV 2 132 dX11_line_1 fX11_28 rfl rfl (zc_k0 zc_s0) (zc_pos zc_s0 rfl) (zc_g0_2 hσ zc_s0) (by decide) ?_
  have t1 := zc_g3_3 hσ zc_s3
  refine zr_callVi (pc := 4) hV [] (st := []) (c_X4_readLine_2 (σ := σ) hσ (by omega)) dX11_line_4 mX11_215 (zc_k132 zc_s132) (zc_pos zc_s132 rfl) (by decide) (Nat.le_of_ble_eq_true rfl) (Nat.le_refl _) (fun r4 σ4 hr4 pσ4 => ?_)
  obtain ⟨hσ4, hfσ4, pσ4, wσ4⟩ := pσ4
  have hFσ4 := zc_Fc hfσ4 rfl hFσ
  have Uσ4 : zc_U σ4 := zc_U_fr hfσ4 rfl hσ Uσ
  have t2 := zc_g1_1 hσ zc_s1
  have t3 := zc_g3_3 hσ zc_s3
  refine zr_istore_n (pc := 7) hV [some (ZR 0), some (ZI r4), none] dX11_line_7 rfl (by decide) rfl rfl ?_
  refine zr_aload_n (pc := 8) hV dX11_line_8 rfl rfl ?_
  refine zr_getR (pc := 9) hV 0 1 dX11_line_9 fX11_10 rfl rfl (zc_k0 zc_s0) (zc_pos zc_s0 rfl) (zc_g0_0 hσ4 zc_s0) (by decide) ?_
  refine zr_callVp (pc := 12) hV [] (st := []) (c_X8_fault_2 (σ := σ4) hσ4) dX11_line_12 mX11_101 (zc_k1 zc_s1) (zc_pos zc_s1 rfl) (by decide) (Nat.le_of_ble_eq_true rfl) (Nat.le_refl _) (fun r12 hr12 pr12 => ?_)
  have t4 := zc_g1_2 hσ4 zc_s1
  refine zr_istore_n (pc := 15) hV [some (ZR 0), some (ZI r4), some (ZI r12)] dX11_line_15 rfl (by decide) rfl rfl ?_
  refine zr_aload_n (pc := 16) hV dX11_line_16 rfl rfl ?_
  refine zr_getR (pc := 17) hV 0 1 dX11_line_17 fX11_10 rfl rfl (zc_k0 zc_s0) (zc_pos zc_s0 rfl) (zc_g0_0 hσ4 zc_s0) (by decide) ?_
  refine zr_callVv (pc := 20) hV [] (st := []) (c_X8_empty_2 (σ := σ4) hσ4) dX11_line_20 mX11_104 (zc_k1 zc_s1) (zc_pos zc_s1 rfl) (by decide) (Nat.le_of_ble_eq_true rfl) (Nat.le_refl _) (fun σ20 pσ20 => ?_)
  obtain ⟨hσ20, hfσ20, pσ20⟩ := pσ20
  have hFσ20 := zc_Fc hfσ20 rfl hFσ4
  have Uσ20 : zc_U σ20 := zc_U_fr hfσ20 rfl hσ4 Uσ4
  have t5 := zc_g1_1 hσ20 zc_s1
  have t6 := zc_g1_2 hσ20 zc_s1
  refine zr_iload_n (pc := 23) hV dX11_line_23 rfl rfl ?_
  refine zr_if_ge (pc := 24) hV 31 dX11_line_24 (by decide) (by omega) (fun c7 => ?_) (fun c7 => ?_)
  · show V 31 [some (ZR 0), some (ZI r4), some (ZI r12)] [] 284 σ20
    refine zr_iload_n (pc := 31) hV dX11_line_31 rfl rfl ?_
    show V 32 [some (ZR 0), some (ZI r4), some (ZI r12)] [ZI r4] 284 σ20
    have t8 := zc_g1_1 hσ20 zc_s1
    exact zr_iret (pc := 32) hV dX11_line_32 rfl rfl ⟨_, rfl, (by omega), hσ20, hFσ20, (by omega), (show ((∀ i, 0 ≤ i → i < σ 3 3 → σ (σ 10 i) 0 ≠ (zt_na (σ 2) (zt_z0 (σ 2) (σ 1 1)) (zt_n0 (σ 2) (σ 1 1)))) ∧ r4 = -20 - (zt_z0 (σ 2) (σ 1 1))) ∨ (∃ o, 0 ≤ o ∧ o < σ 3 3 ∧ σ (σ 10 o) 0 = (zt_na (σ 2) (zt_z0 (σ 2) (σ 1 1)) (zt_n0 (σ 2) (σ 1 1))) ∧ (∀ i, 0 ≤ i → i < o → σ (σ 10 i) 0 ≠ (zt_na (σ 2) (zt_z0 (σ 2) (σ 1 1)) (zt_n0 (σ 2) (σ 1 1)))) ∧ zu_la (zu_cln σ (σ 10 o) (σ 2) (σ 1 1) 4) (σ 2) (σ 1 1) (zu_cbt σ (σ 10 o) (σ 2) (σ 1 1) 4) r4) from (wσ4.elim (fun ⟨a, b, c⟩ => absurd b (by omega)) (fun ⟨o, a, b, c, d, q⟩ => Or.inr ⟨o, a, b, c, d, ⟨fun h => absurd (q.1 h).1 (by omega), fun h => ⟨fun h2 => absurd ((q.2 h).1 h2).1 (by omega), fun h2 => ((q.2 h).2 h2).2⟩⟩⟩))), Uσ20⟩
  · show V 27 [some (ZR 0), some (ZI r4), some (ZI r12)] [] 284 σ20
    refine zr_iload_n (pc := 27) hV dX11_line_27 rfl rfl ?_
    refine zr_goto (pc := 28) hV 32 dX11_line_28 (by decide) ?_
    show V 32 [some (ZR 0), some (ZI r4), some (ZI r12)] [ZI r12] 284 σ20
    have t9 := zc_g1_1 hσ20 zc_s1
    exact zr_iret (pc := 32) hV dX11_line_32 rfl rfl ⟨_, rfl, (by omega), hσ20, hFσ20, (by omega), (show ((∀ i, 0 ≤ i → i < σ 3 3 → σ (σ 10 i) 0 ≠ (zt_na (σ 2) (zt_z0 (σ 2) (σ 1 1)) (zt_n0 (σ 2) (σ 1 1)))) ∧ r12 = -20 - (zt_z0 (σ 2) (σ 1 1))) ∨ (∃ o, 0 ≤ o ∧ o < σ 3 3 ∧ σ (σ 10 o) 0 = (zt_na (σ 2) (zt_z0 (σ 2) (σ 1 1)) (zt_n0 (σ 2) (σ 1 1))) ∧ (∀ i, 0 ≤ i → i < o → σ (σ 10 i) 0 ≠ (zt_na (σ 2) (zt_z0 (σ 2) (σ 1 1)) (zt_n0 (σ 2) (σ 1 1)))) ∧ zu_la (zu_cln σ (σ 10 o) (σ 2) (σ 1 1) 4) (σ 2) (σ 1 1) (zu_cbt σ (σ 10 o) (σ 2) (σ 1 1) 4) r12) from (wσ4.elim (fun ⟨a, b, c⟩ => Or.inl ⟨a, by omega⟩) (fun ⟨o, a, b, c, d, q⟩ => Or.inr ⟨o, a, b, c, d, ⟨fun h => by have := q.1 h; omega, fun h => ⟨fun h2 => by have := (q.2 h).1 h2; omega, fun h2 => absurd ((q.2 h).2 h2).1 (by omega)⟩⟩⟩))), Uσ20⟩
