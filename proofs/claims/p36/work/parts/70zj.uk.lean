set_option maxHeartbeats 800000 in
theorem c_X3_withField_6 {σ : zq_S} (hσ : zc_T σ) (this : Int) (kthis : zc_kd this = 4) (bits : Int) (f : Int) (number : Int) (q0 : 0 ≤ bits ∧ bits ≤ 4095) (q1 : 0 ≤ f ∧ f ≤ 3) (q2 : zq_in number) : zq_C zc_w yX3_withField cX3_withField 7 (some .int) 0 0 284 284 [ZR this, ZI bits, ZI f, ZI number] σ (zq_pp σ (fun r => (0 ≤ r ∧ r ≤ 4095) ∧ r = (zu_wf (σ (this + 1) f) bits number 12).1)) := by
  refine zq_C_of (by decide) (Nat.le_refl _) (Nat.le_of_ble_eq_true rfl) [some (ZR this), some (ZI bits), some (ZI f), some (ZI number), none, none, none] rfl (fun V hV => ?_)
  have pothis := zc_pos kthis rfl
  show V 0 [some (ZR this), some (ZI bits), some (ZI f), some (ZI number), none, none, none] [] 284 σ
  refine zr_iload_n (pc := 0) hV dX3_withField_0 rfl rfl ?_
  refine zr_istore (pc := 1) hV [some (ZR this), some (ZI bits), some (ZI f), some (ZI number), some (ZI bits), none, none] dX3_withField_1 (by decide) rfl rfl ?_
  refine zr_iload_n (pc := 3) hV dX3_withField_3 rfl rfl ?_
  refine zr_istore (pc := 4) hV [some (ZR this), some (ZI bits), some (ZI f), some (ZI number), some (ZI bits), some (ZI number), none] dX3_withField_4 (by decide) rfl rfl ?_
  refine zr_iconst (pc := 6) hV 1 dX3_withField_6 rfl ?_
  refine zr_istore (pc := 7) hV [some (ZR this), some (ZI bits), some (ZI f), some (ZI number), some (ZI bits), some (ZI number), some (ZI 1)] dX3_withField_7 (by decide) rfl rfl ?_
  have L9 : ∀ (fuel : Nat) (x4_9 : Int) (x5_9 : Int) (x6_9 : Int) (k9 : Int), (0 ≤ x4_9 ∧ x4_9 ≤ 4095) → ((-2147483648) ≤ x5_9 ∧ x5_9 ≤ 2147483647) → (1 ≤ x6_9 ∧ x6_9 ≤ 4096) → (0 ≤ k9 ∧ k9 ≤ 12) → (x6_9 = zx_p2 k9) → (x4_9 = (zu_wf (σ (this + 1) f) bits number k9).1) → (x5_9 = (zu_wf (σ (this + 1) f) bits number k9).2) → 8192 - x6_9 < (fuel : Int) → V 9 [some (ZR this), none, some (ZI f), none, some (ZI x4_9), some (ZI x5_9), some (ZI x6_9)] [] 284 σ := by
    intro fuel
    induction fuel with
    | zero =>
      intro x4_9 x5_9 x6_9 k9 hx4_9 hx5_9 hx6_9 hi9_0 hi9_1 hi9_2 hi9_3 hm9
      exfalso; omega
    | succ fuel ih =>
      intro x4_9 x5_9 x6_9 k9 hx4_9 hx5_9 hx6_9 hi9_0 hi9_1 hi9_2 hi9_3 hm9
      have ih9 := ih
      show V 9 [some (ZR this), none, some (ZI f), none, some (ZI x4_9), some (ZI x5_9), some (ZI x6_9)] [] 284 σ
      refine zr_iload (pc := 9) hV dX3_withField_9 rfl ?_
      refine zr_sipush (pc := 11) hV 4096 dX3_withField_11 (by decide) ?_
      refine zr_icmp_ge (pc := 14) hV 62 dX3_withField_14 (by decide) (by omega) ⟨by decide, by decide⟩ (fun c1 => ?_) (fun c1 => ?_)
      · show V 62 [some (ZR this), none, some (ZI f), none, some (ZI x4_9), some (ZI x5_9), some (ZI x6_9)] [] 284 σ
        have zk : k9 = 12 := Classical.byContradiction (fun c => by have q := zx_p2_le (m := k9) (n := 11) (by omega); have z11 : zx_p2 11 = 2048 := rfl; omega)
        refine zr_iload (pc := 62) hV dX3_withField_62 rfl ?_
        exact zr_iret (pc := 64) hV dX3_withField_64 rfl rfl ⟨rfl, _, rfl, (by omega), ⟨by omega, (by rw [← zk]; exact hi9_2)⟩⟩
      · show V 17 [some (ZR this), none, some (ZI f), none, some (ZI x4_9), some (ZI x5_9), some (ZI x6_9)] [] 284 σ
        have zk : k9 ≤ 11 := Classical.byContradiction (fun c => by have e := hi9_1; rw [show k9 = 12 by omega, zx_p2_12] at e; omega)
        have zps := zx_p2_s k9 (by omega)
        have zle := zx_p2_le (m := k9) (n := 11) zk
        have z11 : zx_p2 11 = 2048 := rfl
        refine zr_aload_n (pc := 17) hV dX3_withField_17 rfl rfl ?_
        refine zr_getR (pc := 18) hV 3 (this + 1) dX3_withField_18 fX3_9 rfl rfl (zc_k4 kthis) (zc_pos kthis rfl) (zc_g4_3 hσ kthis) (zc_pos (zc_p4_1 kthis) rfl).1 ?_
        refine zr_iload_n (pc := 21) hV dX3_withField_21 rfl rfl ?_
        refine zr_iald (pc := 22) hV dX3_withField_22 (zc_k5 (zc_p4_1 kthis)) (zc_pos (zc_p4_1 kthis) rfl) rfl (by omega) ?_
        have t2 := zc_ga5 hσ (zc_p4_1 kthis) f
        refine zr_iload (pc := 23) hV dX3_withField_23 rfl ?_
        refine zr_iand (pc := 25) hV dX3_withField_25 ?_
        have t3 := zq_and_nnR (x := σ (this + 1) f) (y := x6_9) (by omega)
        refine zr_if_eq (pc := 26) hV 53 dX3_withField_26 (by decide) (by omega) (fun c4 => ?_) (fun c4 => ?_)
        · show V 53 [some (ZR this), none, some (ZI f), none, some (ZI x4_9), some (ZI x5_9), some (ZI x6_9)] [] 284 σ
          refine zr_iload (pc := 53) hV dX3_withField_53 rfl ?_
          refine zr_iconst (pc := 55) hV 1 dX3_withField_55 rfl ?_
          refine zr_ishl (pc := 56) hV dX3_withField_56 ?_
          have t5 : zq_shl x6_9 1 = x6_9 * 2 := zq_shl_c (x := x6_9) 1 2 (by decide) (by decide) (by omega)
          refine zr_istore (pc := 57) hV [some (ZR this), none, some (ZI f), none, some (ZI x4_9), some (ZI x5_9), some (ZI (zq_shl x6_9 1))] dX3_withField_57 (by decide) rfl rfl ?_
          refine zr_goto (pc := 59) hV 9 dX3_withField_59 (by decide) ?_
          exact ih9 x4_9 x5_9 (zq_shl x6_9 1) (k9 + 1) (by omega) (by omega) (by omega) (by omega) (by omega) (by rw [zu_wf_n (by omega) (by rw [← hi9_1]; omega)]; exact hi9_2) (by rw [zu_wf_n (by omega) (by rw [← hi9_1]; omega)]; exact hi9_3) (by omega)
        · show V 29 [some (ZR this), none, some (ZI f), none, some (ZI x4_9), some (ZI x5_9), some (ZI x6_9)] [] 284 σ
          refine zr_iload (pc := 29) hV dX3_withField_29 rfl ?_
          refine zr_iload (pc := 31) hV dX3_withField_31 rfl ?_
          refine zr_iconst (pc := 33) hV 1 dX3_withField_33 rfl ?_
          refine zr_iand (pc := 34) hV dX3_withField_34 ?_
          have t6 := zq_and_mask x5_9 1 1 2 (by decide) (by decide) (by decide)
          refine zr_if_ne (pc := 35) hV 42 dX3_withField_35 (by decide) (by omega) (fun c7 => ?_) (fun c7 => ?_)
          · show V 42 [some (ZR this), none, some (ZI f), none, some (ZI x4_9), some (ZI x5_9), some (ZI x6_9)] [ZI x4_9] 284 σ
            refine zr_iload (pc := 42) hV dX3_withField_42 rfl ?_
            show V 44 [some (ZR this), none, some (ZI f), none, some (ZI x4_9), some (ZI x5_9), some (ZI x6_9)] [ZI x6_9, ZI x4_9] 284 σ
            refine zr_ior (pc := 44) hV dX3_withField_44 ?_
            have t8 := zq_or_b (x := x4_9) (y := x6_9) 12 4096 (by decide) (by decide) (by omega) (by omega)
            refine zr_istore (pc := 45) hV [some (ZR this), none, some (ZI f), none, some (ZI (zq_or x4_9 x6_9)), some (ZI x5_9), some (ZI x6_9)] dX3_withField_45 (by decide) rfl rfl ?_
            refine zr_iload (pc := 47) hV dX3_withField_47 rfl ?_
            refine zr_iconst (pc := 49) hV 1 dX3_withField_49 rfl ?_
            refine zr_ishr (pc := 50) hV dX3_withField_50 ?_
            have t9 := zq_shr_in x5_9 1
            refine zr_istore (pc := 51) hV [some (ZR this), none, some (ZI f), none, some (ZI (zq_or x4_9 x6_9)), some (ZI (zq_shr x5_9 1)), some (ZI x6_9)] dX3_withField_51 (by decide) rfl rfl ?_
            show V 53 [some (ZR this), none, some (ZI f), none, some (ZI (zq_or x4_9 x6_9)), some (ZI (zq_shr x5_9 1)), some (ZI x6_9)] [] 284 σ
            refine zr_iload (pc := 53) hV dX3_withField_53 rfl ?_
            refine zr_iconst (pc := 55) hV 1 dX3_withField_55 rfl ?_
            refine zr_ishl (pc := 56) hV dX3_withField_56 ?_
            have t10 : zq_shl x6_9 1 = x6_9 * 2 := zq_shl_c (x := x6_9) 1 2 (by decide) (by decide) (by omega)
            refine zr_istore (pc := 57) hV [some (ZR this), none, some (ZI f), none, some (ZI (zq_or x4_9 x6_9)), some (ZI (zq_shr x5_9 1)), some (ZI (zq_shl x6_9 1))] dX3_withField_57 (by decide) rfl rfl ?_
            refine zr_goto (pc := 59) hV 9 dX3_withField_59 (by decide) ?_
            exact ih9 (zq_or x4_9 x6_9) (zq_shr x5_9 1) (zq_shl x6_9 1) (k9 + 1) (by omega) (by omega) (by omega) (by omega) (by omega) (by rw [zu_wf_y1 (by omega) (by rw [← hi9_1]; omega) (by rw [← hi9_3]; omega)]; show _ = zq_or (zu_wf (σ (this + 1) f) bits number k9).1 (zx_p2 k9); rw [← hi9_2, ← hi9_1]) (by rw [zu_wf_y1 (by omega) (by rw [← hi9_1]; omega) (by rw [← hi9_3]; omega)]; show _ = zq_shr (zu_wf (σ (this + 1) f) bits number k9).2 1; rw [← hi9_3]) (by omega)
          · show V 38 [some (ZR this), none, some (ZI f), none, some (ZI x4_9), some (ZI x5_9), some (ZI x6_9)] [ZI x4_9] 284 σ
            refine zr_iconst (pc := 38) hV 0 dX3_withField_38 rfl ?_
            refine zr_goto (pc := 39) hV 44 dX3_withField_39 (by decide) ?_
            show V 44 [some (ZR this), none, some (ZI f), none, some (ZI x4_9), some (ZI x5_9), some (ZI x6_9)] [ZI 0, ZI x4_9] 284 σ
            refine zr_ior (pc := 44) hV dX3_withField_44 ?_
            have t11 := zq_or_b (x := x4_9) (y := 0) 12 4096 (by decide) (by decide) (by omega) (by omega)
            refine zr_istore (pc := 45) hV [some (ZR this), none, some (ZI f), none, some (ZI (zq_or x4_9 0)), some (ZI x5_9), some (ZI x6_9)] dX3_withField_45 (by decide) rfl rfl ?_
            refine zr_iload (pc := 47) hV dX3_withField_47 rfl ?_
            refine zr_iconst (pc := 49) hV 1 dX3_withField_49 rfl ?_
            refine zr_ishr (pc := 50) hV dX3_withField_50 ?_
            have t12 := zq_shr_in x5_9 1
            refine zr_istore (pc := 51) hV [some (ZR this), none, some (ZI f), none, some (ZI (zq_or x4_9 0)), some (ZI (zq_shr x5_9 1)), some (ZI x6_9)] dX3_withField_51 (by decide) rfl rfl ?_
            show V 53 [some (ZR this), none, some (ZI f), none, some (ZI (zq_or x4_9 0)), some (ZI (zq_shr x5_9 1)), some (ZI x6_9)] [] 284 σ
            refine zr_iload (pc := 53) hV dX3_withField_53 rfl ?_
            refine zr_iconst (pc := 55) hV 1 dX3_withField_55 rfl ?_
            refine zr_ishl (pc := 56) hV dX3_withField_56 ?_
            have t13 : zq_shl x6_9 1 = x6_9 * 2 := zq_shl_c (x := x6_9) 1 2 (by decide) (by decide) (by omega)
            refine zr_istore (pc := 57) hV [some (ZR this), none, some (ZI f), none, some (ZI (zq_or x4_9 0)), some (ZI (zq_shr x5_9 1)), some (ZI (zq_shl x6_9 1))] dX3_withField_57 (by decide) rfl rfl ?_
            refine zr_goto (pc := 59) hV 9 dX3_withField_59 (by decide) ?_
            exact ih9 (zq_or x4_9 0) (zq_shr x5_9 1) (zq_shl x6_9 1) (k9 + 1) (by omega) (by omega) (by omega) (by omega) (by omega) (by rw [zu_wf_y0 (by omega) (by rw [← hi9_1]; omega) (by rw [← hi9_3]; omega)]; show _ = zq_or (zu_wf (σ (this + 1) f) bits number k9).1 0; rw [← hi9_2]) (by rw [zu_wf_y0 (by omega) (by rw [← hi9_1]; omega) (by rw [← hi9_3]; omega)]; show _ = zq_shr (zu_wf (σ (this + 1) f) bits number k9).2 1; rw [← hi9_3]) (by omega)
  refine zr_sub (pc := 9) hV [some (ZR this), none, some (ZI f), none, some (ZI bits), some (ZI number), some (ZI 1)] (⟨rfl, rfl, rfl, rfl, rfl, trivial⟩) ?_
  exact L9 (8192 - (1 : Int) + 1 : Int).toNat bits number 1 0 (by omega) (by omega) (by omega) (by omega) rfl rfl rfl (by omega)
set_option maxHeartbeats 800000 in
theorem c_X1_registerOf_2 {σ : zq_S} (hσ : zc_T σ) (node : Int) (q0 : 0 ≤ node ∧ node ≤ 38) : zq_C zc_w yX1_registerOf cX1_registerOf 2 (some .int) 0 0 284 284 [ZR 255, ZI node] σ (zq_pp σ (fun r => r = zm_ro σ (σ 255 1) node)) := by
  refine zq_C_of (by decide) (Nat.le_refl _) (Nat.le_of_ble_eq_true rfl) [some (ZR 255), some (ZI node)] rfl (fun V hV => ?_)
  obtain ⟨told, etold⟩ : ∃ o, σ 255 1 = o := ⟨_, rfl⟩
  have ktold : zc_kd told = 256 := etold ▸ zc_g255_1 hσ zc_s255
  have potold := zc_pos ktold rfl
  show V 0 [some (ZR 255), some (ZI node)] [] 284 σ
  refine zr_aload_n (pc := 0) hV dX1_registerOf_0 rfl rfl ?_
  refine zr_getR (pc := 1) hV 7 274 dX1_registerOf_1 fX1_28 rfl rfl (zc_k255 zc_s255) (zc_pos zc_s255 rfl) (zc_g255_7 hσ zc_s255) (by decide) ?_
  refine zr_iload_n (pc := 4) hV dX1_registerOf_4 rfl rfl ?_
  refine zr_iald (pc := 5) hV dX1_registerOf_5 (zc_k274 zc_s274) (zc_pos zc_s274 rfl) rfl (by omega) ?_
  have t1 := zc_ga274 hσ zc_s274 node
  refine zr_iconst (pc := 6) hV (-1) dX1_registerOf_6 rfl ?_
  refine zr_icmp_ne (pc := 7) hV 22 dX1_registerOf_7 (by decide) (by omega) ⟨by decide, by decide⟩ (fun c2 => ?_) (fun c2 => ?_)
  · show V 22 [some (ZR 255), some (ZI node)] [] 284 σ
    refine zr_aload_n (pc := 22) hV dX1_registerOf_22 rfl rfl ?_
    refine zr_getR (pc := 23) hV 7 274 dX1_registerOf_23 fX1_28 rfl rfl (zc_k255 zc_s255) (zc_pos zc_s255 rfl) (zc_g255_7 hσ zc_s255) (by decide) ?_
    refine zr_iload_n (pc := 26) hV dX1_registerOf_26 rfl rfl ?_
    refine zr_iald (pc := 27) hV dX1_registerOf_27 (zc_k274 zc_s274) (zc_pos zc_s274 rfl) rfl (by omega) ?_
    have t3 := zc_ga274 hσ zc_s274 node
    show V 28 [some (ZR 255), some (ZI node)] [ZI (σ 274 node)] 284 σ
    exact zr_iret (pc := 28) hV dX1_registerOf_28 rfl rfl ⟨rfl, _, rfl, (by omega), (by rw [etold]; unfold zm_ro; split <;> omega)⟩
  · show V 10 [some (ZR 255), some (ZI node)] [] 284 σ
    refine zr_aload_n (pc := 10) hV dX1_registerOf_10 rfl rfl ?_
    refine zr_getR (pc := 11) hV 1 told dX1_registerOf_11 fX1_12 rfl rfl (zc_k255 zc_s255) (zc_pos zc_s255 rfl) (by omega) (zc_pos ktold rfl).1 ?_
    refine zr_getR (pc := 14) hV 1 (told + 2) dX1_registerOf_14 fX1_73 rfl rfl (zc_k256 ktold) (zc_pos ktold rfl) (zc_g256_1 hσ ktold) (zc_pos (zc_p256_2 ktold) rfl).1 ?_
    refine zr_iload_n (pc := 17) hV dX1_registerOf_17 rfl rfl ?_
    refine zr_iald (pc := 18) hV dX1_registerOf_18 (zc_k258 (zc_p256_2 ktold)) (zc_pos (zc_p256_2 ktold) rfl) rfl (by omega) ?_
    have t4 := zc_ga258 hσ (zc_p256_2 ktold) node
    refine zr_goto (pc := 19) hV 28 dX1_registerOf_19 (by decide) ?_
    show V 28 [some (ZR 255), some (ZI node)] [ZI (σ (told + 2) node)] 284 σ
    exact zr_iret (pc := 28) hV dX1_registerOf_28 rfl rfl ⟨rfl, _, rfl, (by omega), (by rw [etold]; unfold zm_ro; split <;> omega)⟩
set_option maxHeartbeats 800000 in
theorem c_X1_chooseSides_2 {σ : zq_S} (hσ : zc_T σ) (node : Int) (form : Int) (q0 : 0 ≤ node ∧ node ≤ 38) (q1 : zq_in form) (q2 : -1 ≤ σ 274 node ∧ σ 274 node ≤ 1000) : zq_C zc_w yX1_chooseSides cX1_chooseSides 6 (none) 1 21 284 284 [ZR 255, ZI node, ZI form] σ (zq_pv (fun τ => zc_T τ ∧ zc_Fr [(274, -1)] σ τ ∧ (True) ∧ zq_hid (∀ i, τ 274 i = zm_cst σ (σ 255 1) node form i))) := by
  refine zq_C_of (by decide) (Nat.le_refl _) (Nat.le_of_ble_eq_true rfl) [some (ZR 255), some (ZI node), some (ZI form), none, none, none] rfl (fun V hV => ?_)
  have hFσ := zc_Fr_rf [(274, -1)] σ
  obtain ⟨told, etold⟩ : ∃ o, σ 255 1 = o := ⟨_, rfl⟩
  have ktold : zc_kd told = 256 := etold ▸ zc_g255_1 hσ zc_s255
  have potold := zc_pos ktold rfl
  show V 0 [some (ZR 255), some (ZI node), some (ZI form), none, none, none] [] 284 σ
  refine zr_aload_n (pc := 0) hV dX1_chooseSides_0 rfl rfl ?_
  refine zr_getR (pc := 1) hV 1 told dX1_chooseSides_1 fX1_12 rfl rfl (zc_k255 zc_s255) (zc_pos zc_s255 rfl) (by omega) (zc_pos ktold rfl).1 ?_
  refine zr_getR (pc := 4) hV 2 (told + 3) dX1_chooseSides_4 fX1_122 rfl rfl (zc_k256 ktold) (zc_pos ktold rfl) (zc_g256_2 hσ ktold) (zc_pos (zc_p256_3 ktold) rfl).1 ?_
  refine zr_iload_n (pc := 7) hV dX1_chooseSides_7 rfl rfl ?_
  refine zr_iald (pc := 8) hV dX1_chooseSides_8 (zc_k259 (zc_p256_3 ktold)) (zc_pos (zc_p256_3 ktold) rfl) rfl (by omega) ?_
  have t1 := zc_ga259 hσ (zc_p256_3 ktold) node
  refine zr_istore_n (pc := 9) hV [some (ZR 255), some (ZI node), some (ZI form), some (ZI (σ (told + 3) node)), none, none] dX1_chooseSides_9 rfl (by decide) rfl rfl ?_
  refine zr_aload_n (pc := 10) hV dX1_chooseSides_10 rfl rfl ?_
  refine zr_getR (pc := 11) hV 1 told dX1_chooseSides_11 fX1_12 rfl rfl (zc_k255 zc_s255) (zc_pos zc_s255 rfl) (by omega) (zc_pos ktold rfl).1 ?_
  refine zr_getR (pc := 14) hV 3 (told + 4) dX1_chooseSides_14 fX1_125 rfl rfl (zc_k256 ktold) (zc_pos ktold rfl) (zc_g256_3 hσ ktold) (zc_pos (zc_p256_4 ktold) rfl).1 ?_
  refine zr_iload_n (pc := 17) hV dX1_chooseSides_17 rfl rfl ?_
  refine zr_iald (pc := 18) hV dX1_chooseSides_18 (zc_k260 (zc_p256_4 ktold)) (zc_pos (zc_p256_4 ktold) rfl) rfl (by omega) ?_
  have t2 := zc_ga260 hσ (zc_p256_4 ktold) node
  refine zr_istore (pc := 19) hV [some (ZR 255), some (ZI node), some (ZI form), some (ZI (σ (told + 3) node)), some (ZI (σ (told + 4) node)), none] dX1_chooseSides_19 (by decide) rfl rfl ?_
  refine zr_aload_n (pc := 21) hV dX1_chooseSides_21 rfl rfl ?_
  refine zr_getR (pc := 22) hV 1 told dX1_chooseSides_22 fX1_12 rfl rfl (zc_k255 zc_s255) (zc_pos zc_s255 rfl) (by omega) (zc_pos ktold rfl).1 ?_
  refine zr_iload_n (pc := 25) hV dX1_chooseSides_25 rfl rfl ?_
  refine zr_callVp (pc := 26) hV [ZI (σ (told + 3) node)] (st := []) (c_X7_isVariable_2 (σ := σ) hσ told ktold (σ (told + 3) node) (by omega)) dX1_chooseSides_26 mX1_66 (zc_k256 ktold) (zc_pos ktold rfl) (by decide) (Nat.le_of_ble_eq_true rfl) (Nat.le_refl _) (fun r26 hr26 pr26 => ?_)
  refine zr_if_eq (pc := 29) hV 43 dX1_chooseSides_29 (by decide) (by omega) (fun c3 => ?_) (fun c3 => ?_)
  · show V 43 [some (ZR 255), some (ZI node), some (ZI form), some (ZI (σ (told + 3) node)), some (ZI (σ (told + 4) node)), none] [] 284 σ
    refine zr_iconst (pc := 43) hV 0 dX1_chooseSides_43 rfl ?_
    show V 44 [some (ZR 255), some (ZI node), some (ZI form), some (ZI (σ (told + 3) node)), some (ZI (σ (told + 4) node)), none] [ZI 0] 284 σ
    refine zr_istore (pc := 44) hV [some (ZR 255), some (ZI node), some (ZI form), some (ZI (σ (told + 3) node)), some (ZI (σ (told + 4) node)), some (ZI 0)] dX1_chooseSides_44 (by decide) rfl rfl ?_
    refine zr_iload (pc := 46) hV dX1_chooseSides_46 rfl ?_
    refine zr_if_ne (pc := 48) hV 63 dX1_chooseSides_48 (by decide) ⟨by decide, by decide⟩ (fun c4 => ?_) (fun c4 => ?_)
    · exfalso; omega
    · show V 51 [some (ZR 255), some (ZI node), some (ZI form), some (ZI (σ (told + 3) node)), some (ZI (σ (told + 4) node)), some (ZI 0)] [] 284 σ
      refine zr_aload_n (pc := 51) hV dX1_chooseSides_51 rfl rfl ?_
      refine zr_getR (pc := 52) hV 7 274 dX1_chooseSides_52 fX1_28 rfl rfl (zc_k255 zc_s255) (zc_pos zc_s255 rfl) (zc_g255_7 hσ zc_s255) (by decide) ?_
      refine zr_iload_n (pc := 55) hV dX1_chooseSides_55 rfl rfl ?_
      refine zr_aload_n (pc := 56) hV dX1_chooseSides_56 rfl rfl ?_
      refine zr_getR (pc := 57) hV 7 274 dX1_chooseSides_57 fX1_28 rfl rfl (zc_k255 zc_s255) (zc_pos zc_s255 rfl) (zc_g255_7 hσ zc_s255) (by decide) ?_
      refine zr_iload_n (pc := 60) hV dX1_chooseSides_60 rfl rfl ?_
      refine zr_iald (pc := 61) hV dX1_chooseSides_61 (zc_k274 zc_s274) (zc_pos zc_s274 rfl) rfl (by omega) ?_
      have t5 := zc_ga274 hσ zc_s274 node
      refine zr_iast (pc := 62) hV dX1_chooseSides_62 (zc_k274 zc_s274) (zc_pos zc_s274 rfl) rfl (by omega) (fun σ62 eσ62 => ?_)
      have hσ62 : zc_T σ62 := zc_ua274 eσ62 hσ zc_s274 (by omega)
      have hFσ62 := zc_Fa eσ62 zc_s274 rfl hFσ
      show V 63 [some (ZR 255), some (ZI node), some (ZI form), some (ZI (σ (told + 3) node)), some (ZI (σ (told + 4) node)), some (ZI 0)] [] 284 σ62
      have n62 : σ62 274 node = σ 274 node := by rw [eσ62]; by_cases c : node = σ (told + 3) node; (rw [← c, zq_up_same]); (rw [zq_up_ne (by omega)])
      refine zr_iload_n (pc := 63) hV dX1_chooseSides_63 rfl rfl ?_
      refine zr_callSp (pc := 64) hV [ZI form] (st := []) (c_X1_takesRegister_2 (σ := σ62) form (by omega)) dX1_chooseSides_64 mX1_128 (by decide) (Nat.le_of_ble_eq_true rfl) (Nat.le_refl _) (fun r64 hr64 pr64 => ?_)
      refine zr_if_eq (pc := 67) hV 111 dX1_chooseSides_67 (by decide) (by omega) (fun c6 => ?_) (fun c6 => ?_)
      · show V 111 [some (ZR 255), some (ZI node), some (ZI form), some (ZI (σ (told + 3) node)), some (ZI (σ (told + 4) node)), some (ZI 0)] [] 284 σ62
        exact zr_vret (pc := 111) hV dX1_chooseSides_111 rfl rfl ⟨rfl, hσ62, hFσ62, trivial, (show ∀ i, σ62 274 i = zm_cst σ (σ 255 1) node form i from (fun i => by rw [etold]; unfold zm_cst; rw [if_neg (show ¬ (i = σ (told + 4) node ∧ (form = 3 ∨ form = 5) ∧ σ (told + 1) (σ (told + 4) node) ≠ 1) by omega)]; by_cases h2 : i = σ (told + 3) node; (rw [h2, eσ62, zq_up_same, if_pos (show σ (told + 3) node = σ (told + 3) node ∧ ¬ (σ (told + 1) (σ (told + 3) node) = 1 ∧ ¬ (form = 5 ∨ form = 6)) from ⟨rfl, by omega⟩)]); (rw [eσ62, zq_up_ne (by omega), if_neg (show ¬ (i = σ (told + 3) node ∧ ¬ (σ (told + 1) (σ (told + 3) node) = 1 ∧ ¬ (form = 5 ∨ form = 6))) from fun q => h2 q.1)])))⟩
      · show V 70 [some (ZR 255), some (ZI node), some (ZI form), some (ZI (σ (told + 3) node)), some (ZI (σ (told + 4) node)), some (ZI 0)] [] 284 σ62
        refine zr_aload_n (pc := 70) hV dX1_chooseSides_70 rfl rfl ?_
        have t7 : σ62 255 1 = σ 255 1 := by rw [eσ62]; exact zq_up_ne (zc_dk zc_s255 zc_s274 rfl)
        refine zr_getR (pc := 71) hV 1 told dX1_chooseSides_71 fX1_12 rfl rfl (zc_k255 zc_s255) (zc_pos zc_s255 rfl) (by omega) (zc_pos ktold rfl).1 ?_
        refine zr_iload (pc := 74) hV dX1_chooseSides_74 rfl ?_
        refine zr_callVp (pc := 76) hV [ZI (σ (told + 4) node)] (st := []) (c_X7_isVariable_2 (σ := σ62) hσ62 told ktold (σ (told + 4) node) (by omega)) dX1_chooseSides_76 mX1_66 (zc_k256 ktold) (zc_pos ktold rfl) (by decide) (Nat.le_of_ble_eq_true rfl) (Nat.le_refl _) (fun r76 hr76 pr76 => ?_)
        have k76 : σ62 (told + 1) (σ (told + 4) node) = σ (told + 1) (σ (told + 4) node) := hFσ62 (told + 1) _ (zc_out_ar (zc_p256_1 ktold) rfl)
        refine zr_if_ne (pc := 79) hV 111 dX1_chooseSides_79 (by decide) (by omega) (fun c8 => ?_) (fun c8 => ?_)
        · show V 111 [some (ZR 255), some (ZI node), some (ZI form), some (ZI (σ (told + 3) node)), some (ZI (σ (told + 4) node)), some (ZI 0)] [] 284 σ62
          exact zr_vret (pc := 111) hV dX1_chooseSides_111 rfl rfl ⟨rfl, hσ62, hFσ62, trivial, (show ∀ i, σ62 274 i = zm_cst σ (σ 255 1) node form i from (fun i => by rw [etold]; unfold zm_cst; rw [if_neg (show ¬ (i = σ (told + 4) node ∧ (form = 3 ∨ form = 5) ∧ σ (told + 1) (σ (told + 4) node) ≠ 1) by omega)]; by_cases h2 : i = σ (told + 3) node; (rw [h2, eσ62, zq_up_same, if_pos (show σ (told + 3) node = σ (told + 3) node ∧ ¬ (σ (told + 1) (σ (told + 3) node) = 1 ∧ ¬ (form = 5 ∨ form = 6)) from ⟨rfl, by omega⟩)]); (rw [eσ62, zq_up_ne (by omega), if_neg (show ¬ (i = σ (told + 3) node ∧ ¬ (σ (told + 1) (σ (told + 3) node) = 1 ∧ ¬ (form = 5 ∨ form = 6))) from fun q => h2 q.1)])))⟩
        · show V 82 [some (ZR 255), some (ZI node), some (ZI form), some (ZI (σ (told + 3) node)), some (ZI (σ (told + 4) node)), some (ZI 0)] [] 284 σ62
          refine zr_aload_n (pc := 82) hV dX1_chooseSides_82 rfl rfl ?_
          refine zr_getR (pc := 83) hV 7 274 dX1_chooseSides_83 fX1_28 rfl rfl (zc_k255 zc_s255) (zc_pos zc_s255 rfl) (zc_g255_7 hσ62 zc_s255) (by decide) ?_
          refine zr_iload (pc := 86) hV dX1_chooseSides_86 rfl ?_
          refine zr_iload (pc := 88) hV dX1_chooseSides_88 rfl ?_
          refine zr_if_eq (pc := 90) hV 102 dX1_chooseSides_90 (by decide) ⟨by decide, by decide⟩ (fun c9 => ?_) (fun c9 => ?_)
          · show V 102 [some (ZR 255), some (ZI node), some (ZI form), some (ZI (σ (told + 3) node)), some (ZI (σ (told + 4) node)), some (ZI 0)] [ZI (σ (told + 4) node), ZR 274] 284 σ62
            refine zr_aload_n (pc := 102) hV dX1_chooseSides_102 rfl rfl ?_
            refine zr_getR (pc := 103) hV 7 274 dX1_chooseSides_103 fX1_28 rfl rfl (zc_k255 zc_s255) (zc_pos zc_s255 rfl) (zc_g255_7 hσ62 zc_s255) (by decide) ?_
            refine zr_iload_n (pc := 106) hV dX1_chooseSides_106 rfl rfl ?_
            refine zr_iald (pc := 107) hV dX1_chooseSides_107 (zc_k274 zc_s274) (zc_pos zc_s274 rfl) rfl (by omega) ?_
            have t10 := zc_ga274 hσ62 zc_s274 node
            refine zr_iconst (pc := 108) hV 1 dX1_chooseSides_108 rfl ?_
            refine zr_iadd (pc := 109) hV dX1_chooseSides_109 ?_
            show V 110 [some (ZR 255), some (ZI node), some (ZI form), some (ZI (σ (told + 3) node)), some (ZI (σ (told + 4) node)), some (ZI 0)] [ZI ((σ62 274 node) + 1), ZI (σ (told + 4) node), ZR 274] 284 σ62
            refine zr_iast (pc := 110) hV dX1_chooseSides_110 (zc_k274 zc_s274) (zc_pos zc_s274 rfl) rfl (by omega) (fun σ110 eσ110 => ?_)
            have hσ110 : zc_T σ110 := zc_ua274 eσ110 hσ62 zc_s274 (by omega)
            have hFσ110 := zc_Fa eσ110 zc_s274 rfl hFσ62
            show V 111 [some (ZR 255), some (ZI node), some (ZI form), some (ZI (σ (told + 3) node)), some (ZI (σ (told + 4) node)), some (ZI 0)] [] 284 σ110
            exact zr_vret (pc := 111) hV dX1_chooseSides_111 rfl rfl ⟨rfl, hσ110, hFσ110, trivial, (show ∀ i, σ110 274 i = zm_cst σ (σ 255 1) node form i from (fun i => by rw [etold]; unfold zm_cst; by_cases h1 : i = σ (told + 4) node; (rw [if_pos (show i = σ (told + 4) node ∧ (form = 3 ∨ form = 5) ∧ σ (told + 1) (σ (told + 4) node) ≠ 1 from ⟨h1, by omega, by omega⟩), h1, eσ110, zq_up_same]; rw [if_neg (show ¬ (σ (told + 1) (σ (told + 3) node) = 1 ∧ ¬ (form = 5 ∨ form = 6)) by omega), n62]); (rw [eσ110, zq_up_ne (by omega), if_neg (show ¬ (i = σ (told + 4) node ∧ (form = 3 ∨ form = 5) ∧ σ (told + 1) (σ (told + 4) node) ≠ 1) from fun q => h1 q.1)]; by_cases h2 : i = σ (told + 3) node; (rw [h2, eσ62, zq_up_same, if_pos (show σ (told + 3) node = σ (told + 3) node ∧ ¬ (σ (told + 1) (σ (told + 3) node) = 1 ∧ ¬ (form = 5 ∨ form = 6)) from ⟨rfl, by omega⟩)]); (rw [eσ62, zq_up_ne (by omega), if_neg (show ¬ (i = σ (told + 3) node ∧ ¬ (σ (told + 1) (σ (told + 3) node) = 1 ∧ ¬ (form = 5 ∨ form = 6))) from fun q => h2 q.1)]))))⟩
          · exfalso; omega
  · show V 32 [some (ZR 255), some (ZI node), some (ZI form), some (ZI (σ (told + 3) node)), some (ZI (σ (told + 4) node)), none] [] 284 σ
    refine zr_iload_n (pc := 32) hV dX1_chooseSides_32 rfl rfl ?_
    refine zr_callSp (pc := 33) hV [ZI form] (st := []) (c_X1_worksInPlace_2 (σ := σ) form (by omega)) dX1_chooseSides_33 mX1_131 (by decide) (Nat.le_of_ble_eq_true rfl) (Nat.le_refl _) (fun r33 hr33 pr33 => ?_)
    refine zr_if_ne (pc := 36) hV 43 dX1_chooseSides_36 (by decide) (by omega) (fun c11 => ?_) (fun c11 => ?_)
    · show V 43 [some (ZR 255), some (ZI node), some (ZI form), some (ZI (σ (told + 3) node)), some (ZI (σ (told + 4) node)), none] [] 284 σ
      refine zr_iconst (pc := 43) hV 0 dX1_chooseSides_43 rfl ?_
      show V 44 [some (ZR 255), some (ZI node), some (ZI form), some (ZI (σ (told + 3) node)), some (ZI (σ (told + 4) node)), none] [ZI 0] 284 σ
      refine zr_istore (pc := 44) hV [some (ZR 255), some (ZI node), some (ZI form), some (ZI (σ (told + 3) node)), some (ZI (σ (told + 4) node)), some (ZI 0)] dX1_chooseSides_44 (by decide) rfl rfl ?_
      refine zr_iload (pc := 46) hV dX1_chooseSides_46 rfl ?_
      refine zr_if_ne (pc := 48) hV 63 dX1_chooseSides_48 (by decide) ⟨by decide, by decide⟩ (fun c12 => ?_) (fun c12 => ?_)
      · exfalso; omega
      · show V 51 [some (ZR 255), some (ZI node), some (ZI form), some (ZI (σ (told + 3) node)), some (ZI (σ (told + 4) node)), some (ZI 0)] [] 284 σ
        refine zr_aload_n (pc := 51) hV dX1_chooseSides_51 rfl rfl ?_
        refine zr_getR (pc := 52) hV 7 274 dX1_chooseSides_52 fX1_28 rfl rfl (zc_k255 zc_s255) (zc_pos zc_s255 rfl) (zc_g255_7 hσ zc_s255) (by decide) ?_
        refine zr_iload_n (pc := 55) hV dX1_chooseSides_55 rfl rfl ?_
        refine zr_aload_n (pc := 56) hV dX1_chooseSides_56 rfl rfl ?_
        refine zr_getR (pc := 57) hV 7 274 dX1_chooseSides_57 fX1_28 rfl rfl (zc_k255 zc_s255) (zc_pos zc_s255 rfl) (zc_g255_7 hσ zc_s255) (by decide) ?_
        refine zr_iload_n (pc := 60) hV dX1_chooseSides_60 rfl rfl ?_
        refine zr_iald (pc := 61) hV dX1_chooseSides_61 (zc_k274 zc_s274) (zc_pos zc_s274 rfl) rfl (by omega) ?_
        have t13 := zc_ga274 hσ zc_s274 node
        refine zr_iast (pc := 62) hV dX1_chooseSides_62 (zc_k274 zc_s274) (zc_pos zc_s274 rfl) rfl (by omega) (fun σ62 eσ62 => ?_)
        have hσ62 : zc_T σ62 := zc_ua274 eσ62 hσ zc_s274 (by omega)
        have hFσ62 := zc_Fa eσ62 zc_s274 rfl hFσ
        show V 63 [some (ZR 255), some (ZI node), some (ZI form), some (ZI (σ (told + 3) node)), some (ZI (σ (told + 4) node)), some (ZI 0)] [] 284 σ62
        have n62 : σ62 274 node = σ 274 node := by rw [eσ62]; by_cases c : node = σ (told + 3) node; (rw [← c, zq_up_same]); (rw [zq_up_ne (by omega)])
        refine zr_iload_n (pc := 63) hV dX1_chooseSides_63 rfl rfl ?_
        refine zr_callSp (pc := 64) hV [ZI form] (st := []) (c_X1_takesRegister_2 (σ := σ62) form (by omega)) dX1_chooseSides_64 mX1_128 (by decide) (Nat.le_of_ble_eq_true rfl) (Nat.le_refl _) (fun r64 hr64 pr64 => ?_)
        refine zr_if_eq (pc := 67) hV 111 dX1_chooseSides_67 (by decide) (by omega) (fun c14 => ?_) (fun c14 => ?_)
        · show V 111 [some (ZR 255), some (ZI node), some (ZI form), some (ZI (σ (told + 3) node)), some (ZI (σ (told + 4) node)), some (ZI 0)] [] 284 σ62
          exact zr_vret (pc := 111) hV dX1_chooseSides_111 rfl rfl ⟨rfl, hσ62, hFσ62, trivial, (show ∀ i, σ62 274 i = zm_cst σ (σ 255 1) node form i from (fun i => by rw [etold]; unfold zm_cst; rw [if_neg (show ¬ (i = σ (told + 4) node ∧ (form = 3 ∨ form = 5) ∧ σ (told + 1) (σ (told + 4) node) ≠ 1) by omega)]; by_cases h2 : i = σ (told + 3) node; (rw [h2, eσ62, zq_up_same, if_pos (show σ (told + 3) node = σ (told + 3) node ∧ ¬ (σ (told + 1) (σ (told + 3) node) = 1 ∧ ¬ (form = 5 ∨ form = 6)) from ⟨rfl, by omega⟩)]); (rw [eσ62, zq_up_ne (by omega), if_neg (show ¬ (i = σ (told + 3) node ∧ ¬ (σ (told + 1) (σ (told + 3) node) = 1 ∧ ¬ (form = 5 ∨ form = 6))) from fun q => h2 q.1)])))⟩
        · show V 70 [some (ZR 255), some (ZI node), some (ZI form), some (ZI (σ (told + 3) node)), some (ZI (σ (told + 4) node)), some (ZI 0)] [] 284 σ62
          refine zr_aload_n (pc := 70) hV dX1_chooseSides_70 rfl rfl ?_
          have t15 : σ62 255 1 = σ 255 1 := by rw [eσ62]; exact zq_up_ne (zc_dk zc_s255 zc_s274 rfl)
          refine zr_getR (pc := 71) hV 1 told dX1_chooseSides_71 fX1_12 rfl rfl (zc_k255 zc_s255) (zc_pos zc_s255 rfl) (by omega) (zc_pos ktold rfl).1 ?_
          refine zr_iload (pc := 74) hV dX1_chooseSides_74 rfl ?_
          refine zr_callVp (pc := 76) hV [ZI (σ (told + 4) node)] (st := []) (c_X7_isVariable_2 (σ := σ62) hσ62 told ktold (σ (told + 4) node) (by omega)) dX1_chooseSides_76 mX1_66 (zc_k256 ktold) (zc_pos ktold rfl) (by decide) (Nat.le_of_ble_eq_true rfl) (Nat.le_refl _) (fun r76 hr76 pr76 => ?_)
          have k76 : σ62 (told + 1) (σ (told + 4) node) = σ (told + 1) (σ (told + 4) node) := hFσ62 (told + 1) _ (zc_out_ar (zc_p256_1 ktold) rfl)
          refine zr_if_ne (pc := 79) hV 111 dX1_chooseSides_79 (by decide) (by omega) (fun c16 => ?_) (fun c16 => ?_)
          · show V 111 [some (ZR 255), some (ZI node), some (ZI form), some (ZI (σ (told + 3) node)), some (ZI (σ (told + 4) node)), some (ZI 0)] [] 284 σ62
            exact zr_vret (pc := 111) hV dX1_chooseSides_111 rfl rfl ⟨rfl, hσ62, hFσ62, trivial, (show ∀ i, σ62 274 i = zm_cst σ (σ 255 1) node form i from (fun i => by rw [etold]; unfold zm_cst; rw [if_neg (show ¬ (i = σ (told + 4) node ∧ (form = 3 ∨ form = 5) ∧ σ (told + 1) (σ (told + 4) node) ≠ 1) by omega)]; by_cases h2 : i = σ (told + 3) node; (rw [h2, eσ62, zq_up_same, if_pos (show σ (told + 3) node = σ (told + 3) node ∧ ¬ (σ (told + 1) (σ (told + 3) node) = 1 ∧ ¬ (form = 5 ∨ form = 6)) from ⟨rfl, by omega⟩)]); (rw [eσ62, zq_up_ne (by omega), if_neg (show ¬ (i = σ (told + 3) node ∧ ¬ (σ (told + 1) (σ (told + 3) node) = 1 ∧ ¬ (form = 5 ∨ form = 6))) from fun q => h2 q.1)])))⟩
          · show V 82 [some (ZR 255), some (ZI node), some (ZI form), some (ZI (σ (told + 3) node)), some (ZI (σ (told + 4) node)), some (ZI 0)] [] 284 σ62
            refine zr_aload_n (pc := 82) hV dX1_chooseSides_82 rfl rfl ?_
            refine zr_getR (pc := 83) hV 7 274 dX1_chooseSides_83 fX1_28 rfl rfl (zc_k255 zc_s255) (zc_pos zc_s255 rfl) (zc_g255_7 hσ62 zc_s255) (by decide) ?_
            refine zr_iload (pc := 86) hV dX1_chooseSides_86 rfl ?_
            refine zr_iload (pc := 88) hV dX1_chooseSides_88 rfl ?_
            refine zr_if_eq (pc := 90) hV 102 dX1_chooseSides_90 (by decide) ⟨by decide, by decide⟩ (fun c17 => ?_) (fun c17 => ?_)
            · show V 102 [some (ZR 255), some (ZI node), some (ZI form), some (ZI (σ (told + 3) node)), some (ZI (σ (told + 4) node)), some (ZI 0)] [ZI (σ (told + 4) node), ZR 274] 284 σ62
              refine zr_aload_n (pc := 102) hV dX1_chooseSides_102 rfl rfl ?_
              refine zr_getR (pc := 103) hV 7 274 dX1_chooseSides_103 fX1_28 rfl rfl (zc_k255 zc_s255) (zc_pos zc_s255 rfl) (zc_g255_7 hσ62 zc_s255) (by decide) ?_
              refine zr_iload_n (pc := 106) hV dX1_chooseSides_106 rfl rfl ?_
              refine zr_iald (pc := 107) hV dX1_chooseSides_107 (zc_k274 zc_s274) (zc_pos zc_s274 rfl) rfl (by omega) ?_
              have t18 := zc_ga274 hσ62 zc_s274 node
              refine zr_iconst (pc := 108) hV 1 dX1_chooseSides_108 rfl ?_
              refine zr_iadd (pc := 109) hV dX1_chooseSides_109 ?_
              show V 110 [some (ZR 255), some (ZI node), some (ZI form), some (ZI (σ (told + 3) node)), some (ZI (σ (told + 4) node)), some (ZI 0)] [ZI ((σ62 274 node) + 1), ZI (σ (told + 4) node), ZR 274] 284 σ62
              refine zr_iast (pc := 110) hV dX1_chooseSides_110 (zc_k274 zc_s274) (zc_pos zc_s274 rfl) rfl (by omega) (fun σ110 eσ110 => ?_)
              have hσ110 : zc_T σ110 := zc_ua274 eσ110 hσ62 zc_s274 (by omega)
              have hFσ110 := zc_Fa eσ110 zc_s274 rfl hFσ62
              show V 111 [some (ZR 255), some (ZI node), some (ZI form), some (ZI (σ (told + 3) node)), some (ZI (σ (told + 4) node)), some (ZI 0)] [] 284 σ110
              exact zr_vret (pc := 111) hV dX1_chooseSides_111 rfl rfl ⟨rfl, hσ110, hFσ110, trivial, (show ∀ i, σ110 274 i = zm_cst σ (σ 255 1) node form i from (fun i => by rw [etold]; unfold zm_cst; by_cases h1 : i = σ (told + 4) node; (rw [if_pos (show i = σ (told + 4) node ∧ (form = 3 ∨ form = 5) ∧ σ (told + 1) (σ (told + 4) node) ≠ 1 from ⟨h1, by omega, by omega⟩), h1, eσ110, zq_up_same]; rw [if_neg (show ¬ (σ (told + 1) (σ (told + 3) node) = 1 ∧ ¬ (form = 5 ∨ form = 6)) by omega), n62]); (rw [eσ110, zq_up_ne (by omega), if_neg (show ¬ (i = σ (told + 4) node ∧ (form = 3 ∨ form = 5) ∧ σ (told + 1) (σ (told + 4) node) ≠ 1) from fun q => h1 q.1)]; by_cases h2 : i = σ (told + 3) node; (rw [h2, eσ62, zq_up_same, if_pos (show σ (told + 3) node = σ (told + 3) node ∧ ¬ (σ (told + 1) (σ (told + 3) node) = 1 ∧ ¬ (form = 5 ∨ form = 6)) from ⟨rfl, by omega⟩)]); (rw [eσ62, zq_up_ne (by omega), if_neg (show ¬ (i = σ (told + 3) node ∧ ¬ (σ (told + 1) (σ (told + 3) node) = 1 ∧ ¬ (form = 5 ∨ form = 6))) from fun q => h2 q.1)]))))⟩
            · exfalso; omega
    · show V 39 [some (ZR 255), some (ZI node), some (ZI form), some (ZI (σ (told + 3) node)), some (ZI (σ (told + 4) node)), none] [] 284 σ
      refine zr_iconst (pc := 39) hV 1 dX1_chooseSides_39 rfl ?_
      refine zr_goto (pc := 40) hV 44 dX1_chooseSides_40 (by decide) ?_
      show V 44 [some (ZR 255), some (ZI node), some (ZI form), some (ZI (σ (told + 3) node)), some (ZI (σ (told + 4) node)), none] [ZI 1] 284 σ
      refine zr_istore (pc := 44) hV [some (ZR 255), some (ZI node), some (ZI form), some (ZI (σ (told + 3) node)), some (ZI (σ (told + 4) node)), some (ZI 1)] dX1_chooseSides_44 (by decide) rfl rfl ?_
      refine zr_iload (pc := 46) hV dX1_chooseSides_46 rfl ?_
      refine zr_if_ne (pc := 48) hV 63 dX1_chooseSides_48 (by decide) ⟨by decide, by decide⟩ (fun c19 => ?_) (fun c19 => ?_)
      · show V 63 [some (ZR 255), some (ZI node), some (ZI form), some (ZI (σ (told + 3) node)), some (ZI (σ (told + 4) node)), some (ZI 1)] [] 284 σ
        refine zr_iload_n (pc := 63) hV dX1_chooseSides_63 rfl rfl ?_
        refine zr_callSp (pc := 64) hV [ZI form] (st := []) (c_X1_takesRegister_2 (σ := σ) form (by omega)) dX1_chooseSides_64 mX1_128 (by decide) (Nat.le_of_ble_eq_true rfl) (Nat.le_refl _) (fun r64 hr64 pr64 => ?_)
        refine zr_if_eq (pc := 67) hV 111 dX1_chooseSides_67 (by decide) (by omega) (fun c20 => ?_) (fun c20 => ?_)
        · show V 111 [some (ZR 255), some (ZI node), some (ZI form), some (ZI (σ (told + 3) node)), some (ZI (σ (told + 4) node)), some (ZI 1)] [] 284 σ
          exact zr_vret (pc := 111) hV dX1_chooseSides_111 rfl rfl ⟨rfl, hσ, hFσ, trivial, (show ∀ i, σ 274 i = zm_cst σ (σ 255 1) node form i from (fun i => by rw [etold]; unfold zm_cst; rw [if_neg (show ¬ (i = σ (told + 4) node ∧ (form = 3 ∨ form = 5) ∧ σ (told + 1) (σ (told + 4) node) ≠ 1) by omega)]; rw [if_neg (show ¬ (i = σ (told + 3) node ∧ ¬ (σ (told + 1) (σ (told + 3) node) = 1 ∧ ¬ (form = 5 ∨ form = 6))) from fun q => q.2 (by omega))]))⟩
        · show V 70 [some (ZR 255), some (ZI node), some (ZI form), some (ZI (σ (told + 3) node)), some (ZI (σ (told + 4) node)), some (ZI 1)] [] 284 σ
          refine zr_aload_n (pc := 70) hV dX1_chooseSides_70 rfl rfl ?_
          refine zr_getR (pc := 71) hV 1 told dX1_chooseSides_71 fX1_12 rfl rfl (zc_k255 zc_s255) (zc_pos zc_s255 rfl) (by omega) (zc_pos ktold rfl).1 ?_
          refine zr_iload (pc := 74) hV dX1_chooseSides_74 rfl ?_
          refine zr_callVp (pc := 76) hV [ZI (σ (told + 4) node)] (st := []) (c_X7_isVariable_2 (σ := σ) hσ told ktold (σ (told + 4) node) (by omega)) dX1_chooseSides_76 mX1_66 (zc_k256 ktold) (zc_pos ktold rfl) (by decide) (Nat.le_of_ble_eq_true rfl) (Nat.le_refl _) (fun r76 hr76 pr76 => ?_)
          refine zr_if_ne (pc := 79) hV 111 dX1_chooseSides_79 (by decide) (by omega) (fun c21 => ?_) (fun c21 => ?_)
          · show V 111 [some (ZR 255), some (ZI node), some (ZI form), some (ZI (σ (told + 3) node)), some (ZI (σ (told + 4) node)), some (ZI 1)] [] 284 σ
            exact zr_vret (pc := 111) hV dX1_chooseSides_111 rfl rfl ⟨rfl, hσ, hFσ, trivial, (show ∀ i, σ 274 i = zm_cst σ (σ 255 1) node form i from (fun i => by rw [etold]; unfold zm_cst; rw [if_neg (show ¬ (i = σ (told + 4) node ∧ (form = 3 ∨ form = 5) ∧ σ (told + 1) (σ (told + 4) node) ≠ 1) by omega)]; rw [if_neg (show ¬ (i = σ (told + 3) node ∧ ¬ (σ (told + 1) (σ (told + 3) node) = 1 ∧ ¬ (form = 5 ∨ form = 6))) from fun q => q.2 (by omega))]))⟩
          · show V 82 [some (ZR 255), some (ZI node), some (ZI form), some (ZI (σ (told + 3) node)), some (ZI (σ (told + 4) node)), some (ZI 1)] [] 284 σ
            refine zr_aload_n (pc := 82) hV dX1_chooseSides_82 rfl rfl ?_
            refine zr_getR (pc := 83) hV 7 274 dX1_chooseSides_83 fX1_28 rfl rfl (zc_k255 zc_s255) (zc_pos zc_s255 rfl) (zc_g255_7 hσ zc_s255) (by decide) ?_
            refine zr_iload (pc := 86) hV dX1_chooseSides_86 rfl ?_
            refine zr_iload (pc := 88) hV dX1_chooseSides_88 rfl ?_
            refine zr_if_eq (pc := 90) hV 102 dX1_chooseSides_90 (by decide) ⟨by decide, by decide⟩ (fun c22 => ?_) (fun c22 => ?_)
            · exfalso; omega
            · show V 93 [some (ZR 255), some (ZI node), some (ZI form), some (ZI (σ (told + 3) node)), some (ZI (σ (told + 4) node)), some (ZI 1)] [ZI (σ (told + 4) node), ZR 274] 284 σ
              refine zr_aload_n (pc := 93) hV dX1_chooseSides_93 rfl rfl ?_
              refine zr_getR (pc := 94) hV 7 274 dX1_chooseSides_94 fX1_28 rfl rfl (zc_k255 zc_s255) (zc_pos zc_s255 rfl) (zc_g255_7 hσ zc_s255) (by decide) ?_
              refine zr_iload_n (pc := 97) hV dX1_chooseSides_97 rfl rfl ?_
              refine zr_iald (pc := 98) hV dX1_chooseSides_98 (zc_k274 zc_s274) (zc_pos zc_s274 rfl) rfl (by omega) ?_
              have t23 := zc_ga274 hσ zc_s274 node
              refine zr_goto (pc := 99) hV 110 dX1_chooseSides_99 (by decide) ?_
              show V 110 [some (ZR 255), some (ZI node), some (ZI form), some (ZI (σ (told + 3) node)), some (ZI (σ (told + 4) node)), some (ZI 1)] [ZI (σ 274 node), ZI (σ (told + 4) node), ZR 274] 284 σ
              refine zr_iast (pc := 110) hV dX1_chooseSides_110 (zc_k274 zc_s274) (zc_pos zc_s274 rfl) rfl (by omega) (fun σ110 eσ110 => ?_)
              have hσ110 : zc_T σ110 := zc_ua274 eσ110 hσ zc_s274 (by omega)
              have hFσ110 := zc_Fa eσ110 zc_s274 rfl hFσ
              show V 111 [some (ZR 255), some (ZI node), some (ZI form), some (ZI (σ (told + 3) node)), some (ZI (σ (told + 4) node)), some (ZI 1)] [] 284 σ110
              exact zr_vret (pc := 111) hV dX1_chooseSides_111 rfl rfl ⟨rfl, hσ110, hFσ110, trivial, (show ∀ i, σ110 274 i = zm_cst σ (σ 255 1) node form i from (fun i => by rw [etold]; unfold zm_cst; by_cases h1 : i = σ (told + 4) node; (rw [if_pos (show i = σ (told + 4) node ∧ (form = 3 ∨ form = 5) ∧ σ (told + 1) (σ (told + 4) node) ≠ 1 from ⟨h1, by omega, by omega⟩), h1, eσ110, zq_up_same]; rw [if_pos (show σ (told + 1) (σ (told + 3) node) = 1 ∧ ¬ (form = 5 ∨ form = 6) by omega)]); (rw [eσ110, zq_up_ne (by omega), if_neg (show ¬ (i = σ (told + 4) node ∧ (form = 3 ∨ form = 5) ∧ σ (told + 1) (σ (told + 4) node) ≠ 1) from fun q => h1 q.1)]; rw [if_neg (show ¬ (i = σ (told + 3) node ∧ ¬ (σ (told + 1) (σ (told + 3) node) = 1 ∧ ¬ (form = 5 ∨ form = 6))) from fun q => q.2 (by omega))])))⟩
      · exfalso; omega
set_option maxHeartbeats 800000 in
theorem c_X1_chooseRegisters_2 {σ : zq_S} (hσ : zc_T σ)   (Nσ : zc_N σ) : zq_C zc_w yX1_chooseRegisters cX1_chooseRegisters 3 (none) 2 46 284 284 [ZR 255] σ (zq_pv (fun τ => zc_T τ ∧ zc_Fr [(274, -1)] σ τ ∧ (True) ∧ zq_hid ((∀ D, zm_H σ D (σ 255 1) → ∀ i, 0 ≤ i → i < D 0 37 → τ 274 i = zm_I D (zm_C D) (σ 255 4) i)) ∧ zc_N τ)) := by
  refine zq_C_of (by decide) (Nat.le_refl _) (Nat.le_of_ble_eq_true rfl) [some (ZR 255), none, none] rfl (fun V hV => ?_)
  have hFσ := zc_Fr_rf [(274, -1)] σ
  obtain ⟨told, etold⟩ : ∃ o, σ 255 1 = o := ⟨_, rfl⟩
  have ktold : zc_kd told = 256 := etold ▸ zc_g255_1 hσ zc_s255
  have potold := zc_pos ktold rfl
  have hN := Nσ
  unfold zc_N at hN
  rw [etold] at hN
  have zv := zc_g255_4 hσ zc_s255
  have zn5 := zc_g256_5 hσ ktold
  show V 0 [some (ZR 255), none, none] [] 284 σ
  refine zr_aload_n (pc := 0) hV dX1_chooseRegisters_0 rfl rfl ?_
  refine zr_getR (pc := 1) hV 7 274 dX1_chooseRegisters_1 fX1_28 rfl rfl (zc_k255 zc_s255) (zc_pos zc_s255 rfl) (zc_g255_7 hσ zc_s255) (by decide) ?_
  refine zr_iconst (pc := 4) hV (-1) dX1_chooseRegisters_4 rfl ?_
  refine zr_callSv (pc := 5) hV [ZR 274, ZI (-1)] (st := []) (c_fill (σ := σ) hσ 274 (-1) zc_s274 rfl rfl ⟨by decide, by decide⟩ (fun _ => ⟨by omega, by omega⟩)) dX1_chooseRegisters_5 mX1_158 (by decide) (Nat.le_of_ble_eq_true rfl) (Nat.le_refl _) (fun σ5 pσ5 => ?_)
  obtain ⟨hσ5, hfσ5, pσ5⟩ := pσ5
  have hFσ5 := zc_Fc hfσ5 rfl hFσ
  have Nσ5 : zc_N σ5 := zc_N_fr hfσ5 rfl hσ Nσ
  refine zr_aload_n (pc := 8) hV dX1_chooseRegisters_8 rfl rfl ?_
  refine zr_getR (pc := 9) hV 7 274 dX1_chooseRegisters_9 fX1_28 rfl rfl (zc_k255 zc_s255) (zc_pos zc_s255 rfl) (zc_g255_7 hσ5 zc_s255) (by decide) ?_
  refine zr_aload_n (pc := 12) hV dX1_chooseRegisters_12 rfl rfl ?_
  have t1 : σ5 255 1 = σ 255 1 := hfσ5 _ _ (zc_out_at zc_s255 rfl)
  refine zr_getR (pc := 13) hV 1 told dX1_chooseRegisters_13 fX1_12 rfl rfl (zc_k255 zc_s255) (zc_pos zc_s255 rfl) (by omega) (zc_pos ktold rfl).1 ?_
  refine zr_callVp (pc := 16) hV [] (st := [ZR 274]) (c_X7_root (σ := σ5) hσ5 told ktold) dX1_chooseRegisters_16 mX1_83 (zc_k256 ktold) (zc_pos ktold rfl) (by decide) (Nat.le_of_ble_eq_true rfl) (Nat.le_refl _) (fun r16 hr16 pr16 => ?_)
  have t2 := zc_g256_5 hσ5 ktold
  have t3 : σ5 told 5 = σ told 5 := hfσ5 _ _ (zc_out_at ktold rfl)
  refine zr_aload_n (pc := 19) hV dX1_chooseRegisters_19 rfl rfl ?_
  refine zr_getI (pc := 20) hV 4 dX1_chooseRegisters_20 fX1_38 rfl rfl (zc_k255 zc_s255) (zc_pos zc_s255 rfl) ?_
  have t4 := zc_g255_4 hσ5 zc_s255
  have t5 : σ5 255 4 = σ 255 4 := hfσ5 _ _ (zc_out_at zc_s255 rfl)
  refine zr_iast (pc := 23) hV dX1_chooseRegisters_23 (zc_k274 zc_s274) (zc_pos zc_s274 rfl) rfl (by omega) (fun σ23 eσ23 => ?_)
  have hσ23 : zc_T σ23 := zc_ua274 eσ23 hσ5 zc_s274 (by omega)
  have hFσ23 := zc_Fa eσ23 zc_s274 rfl hFσ5
  have Nσ23 : zc_N σ23 := zc_N_fr (zc_Fa eσ23 zc_s274 rfl (zc_Fr_rf [(274, -1)] _)) rfl hσ5 Nσ5
  refine zr_aload_n (pc := 24) hV dX1_chooseRegisters_24 rfl rfl ?_
  have t6 : σ23 255 1 = σ5 255 1 := by rw [eσ23]; exact zq_up_ne (zc_dk zc_s255 zc_s274 rfl)
  have t7 : σ5 255 1 = σ 255 1 := hfσ5 _ _ (zc_out_at zc_s255 rfl)
  refine zr_getR (pc := 25) hV 1 told dX1_chooseRegisters_25 fX1_12 rfl rfl (zc_k255 zc_s255) (zc_pos zc_s255 rfl) (by omega) (zc_pos ktold rfl).1 ?_
  refine zr_callVp (pc := 28) hV [] (st := []) (c_X7_root (σ := σ23) hσ23 told ktold) dX1_chooseRegisters_28 mX1_83 (zc_k256 ktold) (zc_pos ktold rfl) (by decide) (Nat.le_of_ble_eq_true rfl) (Nat.le_refl _) (fun r28 hr28 pr28 => ?_)
  have t8 := zc_g256_5 hσ23 ktold
  have t9 : σ23 told 5 = σ5 told 5 := by rw [eσ23]; exact zq_up_ne (zc_dk ktold zc_s274 rfl)
  have t10 : σ5 told 5 = σ told 5 := hfσ5 _ _ (zc_out_at ktold rfl)
  refine zr_istore_n (pc := 31) hV [some (ZR 255), some (ZI r28), none] dX1_chooseRegisters_31 rfl (by decide) rfl rfl ?_
  have L32 : ∀ (fuel : Nat) (x1_32 : Int) (σ_32 : zq_S), ((-1) ≤ x1_32 ∧ x1_32 ≤ 38) → (zc_T σ_32) → (zc_Fr [(274, -1)] σ σ_32) → (zc_N σ_32) → (zq_hid (∀ i, 0 ≤ i → i ≤ 38 → -1 ≤ σ_32 274 i ∧ σ_32 274 i ≤ 46 - x1_32)) → (zq_hid (zm_CR σ σ_32 told x1_32)) → (x1_32 ≤ σ told 5 - 1) → x1_32 - (-1) < (fuel : Int) → V 32 [some (ZR 255), some (ZI x1_32), none] [] 284 σ_32 := by
    intro fuel
    induction fuel with
    | zero =>
      intro x1_32 σ_32 hx1_32 hσ_32 hFσ_32 Nσ_32 hi32_0 hi32_1 hi32_2 hm32
      exfalso; omega
    | succ fuel ih =>
      intro x1_32 σ_32 hx1_32 hσ_32 hFσ_32 Nσ_32 hi32_0 hi32_1 hi32_2 hm32
      have ih32 := ih
      show V 32 [some (ZR 255), some (ZI x1_32), none] [] 284 σ_32
      refine zr_iload_n (pc := 32) hV dX1_chooseRegisters_32 rfl rfl ?_
      refine zr_if_lt (pc := 33) hV 87 dX1_chooseRegisters_33 (by decide) (by omega) (fun c11 => ?_) (fun c11 => ?_)
      · show V 87 [some (ZR 255), some (ZI x1_32), none] [] 284 σ_32
        exact zr_vret (pc := 87) hV dX1_chooseRegisters_87 rfl rfl ⟨rfl, hσ_32, hFσ_32, trivial, (show (∀ D, zm_H σ D (σ 255 1) → ∀ i, 0 ≤ i → i < D 0 37 → σ_32 274 i = zm_I D (zm_C D) (σ 255 4) i) from (fun D hD i i0 i1 => by rw [etold] at hD; have z := hi32_1 D hD i i0 i1; rw [show x1_32 = -1 by omega] at z; exact z)), Nσ_32⟩
      · show V 36 [some (ZR 255), some (ZI x1_32), none] [] 284 σ_32
        refine zr_aload_n (pc := 36) hV dX1_chooseRegisters_36 rfl rfl ?_
        refine zr_getR (pc := 37) hV 0 3 dX1_chooseRegisters_37 fX1_34 rfl rfl (zc_k255 zc_s255) (zc_pos zc_s255 rfl) (zc_g255_0 hσ_32 zc_s255) (by decide) ?_
        refine zr_aload_n (pc := 40) hV dX1_chooseRegisters_40 rfl rfl ?_
        refine zr_getR (pc := 41) hV 6 273 dX1_chooseRegisters_41 fX1_25 rfl rfl (zc_k255 zc_s255) (zc_pos zc_s255 rfl) (zc_g255_6 hσ_32 zc_s255) (by decide) ?_
        refine zr_iload_n (pc := 44) hV dX1_chooseRegisters_44 rfl rfl ?_
        refine zr_iald (pc := 45) hV dX1_chooseRegisters_45 (zc_k273 zc_s273) (zc_pos zc_s273 rfl) rfl (by omega) ?_
        have t12 := zc_ga273 hσ_32 zc_s273 x1_32
        have t13 : σ_32 273 x1_32 = σ 273 x1_32 := hFσ_32 _ _ (zc_out_ar zc_s273 rfl)
        have p73 : σ_32 273 x1_32 = σ 273 x1_32 := hFσ_32 273 x1_32 (zc_out_ar zc_s273 rfl)
        have e33 : σ_32 3 3 = σ 3 3 := hFσ_32 3 3 (zc_out_at zc_s3 rfl)
        refine zr_callVr (pc := 46) hV [ZI (σ_32 273 x1_32)] (st := []) (c_X9_numbered_2 (σ := σ_32) hσ_32 (σ_32 273 x1_32) (by omega)) dX1_chooseRegisters_46 mX1_87 (zc_k3 zc_s3) (zc_pos zc_s3 rfl) (by decide) (Nat.le_of_ble_eq_true rfl) (Nat.le_refl _) (fun r46 pr46 => ?_)
        refine zr_astore_nQ (pc := 49) hV [some (ZR 255), some (ZI x1_32), some (zq_nr r46)] dX1_chooseRegisters_49 rfl (by decide) rfl rfl ?_
        refine zr_aload_n (pc := 50) hV dX1_chooseRegisters_50 rfl rfl ?_
        refine zr_getR (pc := 51) hV 7 274 dX1_chooseRegisters_51 fX1_28 rfl rfl (zc_k255 zc_s255) (zc_pos zc_s255 rfl) (zc_g255_7 hσ_32 zc_s255) (by decide) ?_
        refine zr_iload_n (pc := 54) hV dX1_chooseRegisters_54 rfl rfl ?_
        refine zr_iald (pc := 55) hV dX1_chooseRegisters_55 (zc_k274 zc_s274) (zc_pos zc_s274 rfl) rfl (by omega) ?_
        have t14 := zc_ga274 hσ_32 zc_s274 x1_32
        refine zr_iconst (pc := 56) hV (-1) dX1_chooseRegisters_56 rfl ?_
        refine zr_icmp_eq (pc := 57) hV 81 dX1_chooseRegisters_57 (by decide) (by omega) ⟨by decide, by decide⟩ (fun c15 => ?_) (fun c15 => ?_)
        · show V 81 [some (ZR 255), some (ZI x1_32), some (zq_nr r46)] [] 284 σ_32
          refine zr_iinc (pc := 81) hV [some (ZR 255), some (ZI (x1_32 + (-1))), some (zq_nr r46)] (x1_32 + (-1)) dX1_chooseRegisters_81 rfl rfl (by decide) rfl rfl ?_
          refine zr_goto (pc := 84) hV 32 dX1_chooseRegisters_84 (by decide) ?_
          refine zr_sub (pc := 32) hV [some (ZR 255), some (ZI (x1_32 + (-1))), none] (⟨rfl, rfl, trivial⟩) ?_
          exact ih32 (x1_32 + (-1)) σ_32 (by omega) hσ_32 hFσ_32 Nσ_32 (fun i i0 i1 => by have z := hi32_0 i i0 i1; omega) (by rw [(show x1_32 + (-1) = x1_32 - 1 by omega)]; exact zm_CR_n (by omega) (by omega) (by first | exact Or.inl (by omega) | exact Or.inr (Or.inl (fun q => pr46.2.2 (by omega) (by omega))) | exact Or.inr (Or.inr (by rw [← p73, ← o46]; omega))) hi32_1) (by omega) (by omega)
        · show V 60 [some (ZR 255), some (ZI x1_32), some (zq_nr r46)] [] 284 σ_32
          refine zr_aload_nQ (pc := 60) hV dX1_chooseRegisters_60 rfl rfl ?_
          by_cases c16 : r46 < 0
          · rw [zq_nr_n c16]
            refine zr_ifnullN (pc := 61) hV 81 dX1_chooseRegisters_61 (by decide) ?_
            show V 81 [some (ZR 255), some (ZI x1_32), some (ZN)] [] 284 σ_32
            refine zr_iinc (pc := 81) hV [some (ZR 255), some (ZI (x1_32 + (-1))), some (ZN)] (x1_32 + (-1)) dX1_chooseRegisters_81 rfl rfl (by decide) rfl rfl ?_
            refine zr_goto (pc := 84) hV 32 dX1_chooseRegisters_84 (by decide) ?_
            refine zr_sub (pc := 32) hV [some (ZR 255), some (ZI (x1_32 + (-1))), none] (⟨rfl, rfl, trivial⟩) ?_
            exact ih32 (x1_32 + (-1)) σ_32 (by omega) hσ_32 hFσ_32 Nσ_32 (fun i i0 i1 => by have z := hi32_0 i i0 i1; omega) (by rw [(show x1_32 + (-1) = x1_32 - 1 by omega)]; exact zm_CR_n (by omega) (by omega) (by first | exact Or.inl (by omega) | exact Or.inr (Or.inl (fun q => pr46.2.2 (by omega) (by omega))) | exact Or.inr (Or.inr (by rw [← p73, ← o46]; omega))) hi32_1) (by omega) (by omega)
          · rw [zq_nr_p c16]
            have kr46 : zc_kd r46 = 4 := pr46.1 (by omega)
            have por46 := zc_pos kr46 rfl
            refine zr_ifnull (pc := 61) hV dX1_chooseRegisters_61 ?_
            show V 64 [some (ZR 255), some (ZI x1_32), some (ZR r46)] [] 284 σ_32
            have o46 : r46 = σ 10 (σ_32 273 x1_32) := by rw [← hFσ_32 10 _ (zc_out_ar zc_s10 rfl)]; exact (pr46.2.1 (by omega)).2.2
            have b46 : 0 ≤ σ_32 273 x1_32 ∧ σ_32 273 x1_32 < σ 3 3 := by have z := pr46.2.1 (by omega); omega
            refine zr_aload_n (pc := 64) hV dX1_chooseRegisters_64 rfl rfl ?_
            refine zr_getI (pc := 65) hV 14 dX1_chooseRegisters_65 fX1_105 rfl rfl (zc_k4 kr46) (zc_pos kr46 rfl) ?_
            have t17 := zc_g4_14 hσ_32 kr46
            have t18 : σ_32 r46 14 = σ r46 14 := hFσ_32 _ _ (zc_out_at kr46 rfl)
            refine zr_iconst (pc := 68) hV 3 dX1_chooseRegisters_68 rfl ?_
            refine zr_icmp_lt (pc := 69) hV 81 dX1_chooseRegisters_69 (by decide) (by omega) ⟨by decide, by decide⟩ (fun c19 => ?_) (fun c19 => ?_)
            · show V 81 [some (ZR 255), some (ZI x1_32), some (ZR r46)] [] 284 σ_32
              refine zr_iinc (pc := 81) hV [some (ZR 255), some (ZI (x1_32 + (-1))), some (ZR r46)] (x1_32 + (-1)) dX1_chooseRegisters_81 rfl rfl (by decide) rfl rfl ?_
              refine zr_goto (pc := 84) hV 32 dX1_chooseRegisters_84 (by decide) ?_
              refine zr_sub (pc := 32) hV [some (ZR 255), some (ZI (x1_32 + (-1))), none] (⟨rfl, rfl, trivial⟩) ?_
              exact ih32 (x1_32 + (-1)) σ_32 (by omega) hσ_32 hFσ_32 Nσ_32 (fun i i0 i1 => by have z := hi32_0 i i0 i1; omega) (by rw [(show x1_32 + (-1) = x1_32 - 1 by omega)]; exact zm_CR_n (by omega) (by omega) (by first | exact Or.inl (by omega) | exact Or.inr (Or.inl (fun q => pr46.2.2 (by omega) (by omega))) | exact Or.inr (Or.inr (by rw [← p73, ← o46]; omega))) hi32_1) (by omega) (by omega)
            · show V 72 [some (ZR 255), some (ZI x1_32), some (ZR r46)] [] 284 σ_32
              refine zr_aload_n (pc := 72) hV dX1_chooseRegisters_72 rfl rfl ?_
              refine zr_iload_n (pc := 73) hV dX1_chooseRegisters_73 rfl rfl ?_
              refine zr_aload_n (pc := 74) hV dX1_chooseRegisters_74 rfl rfl ?_
              refine zr_getI (pc := 75) hV 14 dX1_chooseRegisters_75 fX1_105 rfl rfl (zc_k4 kr46) (zc_pos kr46 rfl) ?_
              have t20 := zc_g4_14 hσ_32 kr46
              have t21 : σ_32 r46 14 = σ r46 14 := hFσ_32 _ _ (zc_out_at kr46 rfl)
              have t22 := zc_g4_14 hσ_32 kr46
              have t23 : σ_32 r46 14 = σ r46 14 := hFσ_32 _ _ (zc_out_at kr46 rfl)
              refine zr_callVv (pc := 78) hV [ZI x1_32, ZI (σ_32 r46 14)] (st := []) (c_X1_chooseSides_2 (σ := σ_32) hσ_32 x1_32 (σ_32 r46 14) (by omega) (by omega) (by have z := hi32_0 x1_32 (by omega) (by omega); omega)) dX1_chooseRegisters_78 mX1_164 (zc_k255 zc_s255) (zc_pos zc_s255 rfl) (by decide) (Nat.le_of_ble_eq_true rfl) (Nat.le_refl _) (fun σ78 pσ78 => ?_)
              obtain ⟨hσ78, hfσ78, pσ78, wσ78⟩ := pσ78
              have hFσ78 := zc_Fc hfσ78 rfl hFσ_32
              have Nσ78 : zc_N σ78 := zc_N_fr hfσ78 rfl hσ_32 Nσ_32
              have t24 := zc_g4_14 hσ_32 kr46
              have t25 : σ_32 r46 14 = σ r46 14 := hFσ_32 _ _ (zc_out_at kr46 rfl)
              show V 81 [some (ZR 255), some (ZI x1_32), some (ZR r46)] [] 284 σ78
              refine zr_iinc (pc := 81) hV [some (ZR 255), some (ZI (x1_32 + (-1))), some (ZR r46)] (x1_32 + (-1)) dX1_chooseRegisters_81 rfl rfl (by decide) rfl rfl ?_
              refine zr_goto (pc := 84) hV 32 dX1_chooseRegisters_84 (by decide) ?_
              refine zr_sub (pc := 32) hV [some (ZR 255), some (ZI (x1_32 + (-1))), none] (⟨rfl, rfl, trivial⟩) ?_
              exact ih32 (x1_32 + (-1)) σ78 (by omega) hσ78 hFσ78 Nσ78 (fun i i0 i1 => by have z := hi32_0 i i0 i1; have z2 := hi32_0 x1_32 (by omega) (by omega); have w := wσ78; unfold zq_hid at w; rw [w i]; unfold zm_cst; repeat' split; all_goals omega) (by rw [(show x1_32 + (-1) = x1_32 - 1 by omega)]; have w := wσ78; unfold zq_hid at w; rw [hFσ_32 255 1 (zc_out_at zc_s255 rfl), etold] at w; exact zm_CR_y (by omega) (by omega) (by omega) (by rw [← p73]; omega) (form := σ_32 r46 14) (by rw [← p73, ← o46, hFσ_32 r46 14 (zc_out_at kr46 rfl)]) (by omega) (fun i => hFσ_32 (told + 1) i (zc_out_ar (zc_p256_1 ktold) rfl)) (hFσ_32 (told + 3) x1_32 (zc_out_ar (zc_p256_3 ktold) rfl)) (hFσ_32 (told + 4) x1_32 (zc_out_ar (zc_p256_4 ktold) rfl)) w hi32_1) (by omega) (by omega)
  exact L32 (r28 - (-1) + 1 : Int).toNat r28 σ23 (by omega) hσ23 hFσ23 Nσ23 (fun i i0 i1 => if c : i = r16 then (by rw [c, eσ23, zq_up_same]; omega) else (by rw [eσ23, zq_up_ne (by omega), pσ5.1 i i0 (by omega)]; omega)) (by rw [show r28 = σ told 5 - 1 by omega]; exact zm_CR_0 (by rw [← (show r16 = σ told 5 - 1 by omega), eσ23, zq_up_same]; omega) (fun i i0 i1 c => by rw [eσ23, zq_up_ne (by omega), pσ5.1 i i0 (by omega)])) (by omega) (by omega)
set_option maxHeartbeats 800000 in
theorem c_X1_emit_2 {σ : zq_S} (hσ : zc_T σ) (node : Int) (q0 : 0 ≤ node ∧ node ≤ 38) (q1 : ∀ o, 0 ≤ o → o < σ 3 3 → σ (σ 10 o) 11 ≤ 1000) : zq_C zc_w yX1_emit cX1_emit 7 (some .boolean) 3 65 284 284 [ZR 255, ZI node] σ (zq_pi (fun r τ => zc_T τ ∧ zc_Fr [(255, 9), (275, -1)] σ τ ∧ ((0 ≤ r ∧ r ≤ 1)) ∧ zq_hid (∃ o, ((σ (σ 255 1 + 1) node = 1 → zp_LM σ o (σ 3 3) ∧ o < σ 3 3) ∧ (σ (σ 255 1 + 1) node ≠ 1 → o = σ 273 node)) ∧ (r = 1 ↔ 0 ≤ o ∧ o < σ 3 3 ∧ σ 274 node < zx_p2 (σ 3 1) ∧ σ 255 9 < 64) ∧ (r = 1 → τ 255 9 = σ 255 9 + 1 ∧ τ 275 (σ 255 9) = zm_cw σ (σ 255 1) node (σ 10 o) ∧ ∀ i, i ≠ σ 255 9 → τ 275 i = σ 275 i)))) := by
  refine zq_C_of (by decide) (Nat.le_refl _) (Nat.le_of_ble_eq_true rfl) [some (ZR 255), some (ZI node), none, none, none, none, none] rfl (fun V hV => ?_)
  have hFσ := zc_Fr_rf [(255, 9), (275, -1)] σ
  obtain ⟨told, etold⟩ : ∃ o, σ 255 1 = o := ⟨_, rfl⟩
  have ktold : zc_kd told = 256 := etold ▸ zc_g255_1 hσ zc_s255
  have potold := zc_pos ktold rfl
  have zk1 := zc_g3_1 hσ zc_s3
  have zsh : zq_shl 1 (σ 3 1) = zx_p2 (σ 3 1) := (zx_shl_one 12 4096 (by decide) (by decide) (by omega)).1
  show V 0 [some (ZR 255), some (ZI node), none, none, none, none, none] [] 284 σ
  refine zr_aload_n (pc := 0) hV dX1_emit_0 rfl rfl ?_
  refine zr_getR (pc := 1) hV 1 told dX1_emit_1 fX1_12 rfl rfl (zc_k255 zc_s255) (zc_pos zc_s255 rfl) (by omega) (zc_pos ktold rfl).1 ?_
  refine zr_iload_n (pc := 4) hV dX1_emit_4 rfl rfl ?_
  refine zr_callVp (pc := 5) hV [ZI node] (st := []) (c_X7_isVariable_2 (σ := σ) hσ told ktold node (by omega)) dX1_emit_5 mX1_66 (zc_k256 ktold) (zc_pos ktold rfl) (by decide) (Nat.le_of_ble_eq_true rfl) (Nat.le_refl _) (fun r5 hr5 pr5 => ?_)
  refine zr_if_eq (pc := 8) hV 18 dX1_emit_8 (by decide) (by omega) (fun c1 => ?_) (fun c1 => ?_)
  · show V 18 [some (ZR 255), some (ZI node), none, none, none, none, none] [] 284 σ
    refine zr_aload_n (pc := 18) hV dX1_emit_18 rfl rfl ?_
    refine zr_getR (pc := 19) hV 6 273 dX1_emit_19 fX1_25 rfl rfl (zc_k255 zc_s255) (zc_pos zc_s255 rfl) (zc_g255_6 hσ zc_s255) (by decide) ?_
    refine zr_iload_n (pc := 22) hV dX1_emit_22 rfl rfl ?_
    refine zr_iald (pc := 23) hV dX1_emit_23 (zc_k273 zc_s273) (zc_pos zc_s273 rfl) rfl (by omega) ?_
    have t2 := zc_ga273 hσ zc_s273 node
    show V 24 [some (ZR 255), some (ZI node), none, none, none, none, none] [ZI (σ 273 node)] 284 σ
    refine zr_istore_n (pc := 24) hV [some (ZR 255), some (ZI node), some (ZI (σ 273 node)), none, none, none, none] dX1_emit_24 rfl (by decide) rfl rfl ?_
    refine zr_aload_n (pc := 25) hV dX1_emit_25 rfl rfl ?_
    refine zr_getR (pc := 26) hV 0 3 dX1_emit_26 fX1_34 rfl rfl (zc_k255 zc_s255) (zc_pos zc_s255 rfl) (zc_g255_0 hσ zc_s255) (by decide) ?_
    refine zr_iload_n (pc := 29) hV dX1_emit_29 rfl rfl ?_
    refine zr_callVr (pc := 30) hV [ZI (σ 273 node)] (st := []) (c_X9_numbered_2 (σ := σ) hσ (σ 273 node) (by omega)) dX1_emit_30 mX1_87 (zc_k3 zc_s3) (zc_pos zc_s3 rfl) (by decide) (Nat.le_of_ble_eq_true rfl) (Nat.le_refl _) (fun r30 pr30 => ?_)
    refine zr_astore_nQ (pc := 33) hV [some (ZR 255), some (ZI node), some (ZI (σ 273 node)), some (zq_nr r30), none, none, none] dX1_emit_33 rfl (by decide) rfl rfl ?_
    refine zr_aload_nQ (pc := 34) hV dX1_emit_34 rfl rfl ?_
    by_cases c3 : r30 < 0
    · rw [zq_nr_n c3]
      refine zr_ifnullN (pc := 35) hV 63 dX1_emit_35 (by decide) ?_
      show V 63 [some (ZR 255), some (ZI node), some (ZI (σ 273 node)), some (ZN), none, none, none] [] 284 σ
      refine zr_iconst (pc := 63) hV 0 dX1_emit_63 rfl ?_
      have t4 := zc_g255_9 hσ zc_s255
      exact zr_zret (pc := 64) hV dX1_emit_64 rfl rfl (by omega) ⟨_, rfl, ⟨by decide, by decide⟩, hσ, hFσ, (by omega), (show ∃ o, ((σ (σ 255 1 + 1) node = 1 → zp_LM σ o (σ 3 3) ∧ o < σ 3 3) ∧ (σ (σ 255 1 + 1) node ≠ 1 → o = σ 273 node)) ∧ ((0 : Int) = 1 ↔ 0 ≤ o ∧ o < σ 3 3 ∧ σ 274 node < zx_p2 (σ 3 1) ∧ σ 255 9 < 64) ∧ ((0 : Int) = 1 → σ 255 9 = σ 255 9 + 1 ∧ σ 275 (σ 255 9) = zm_cw σ (σ 255 1) node (σ 10 o) ∧ ∀ i, i ≠ σ 255 9 → σ 275 i = σ 275 i) from (by rw [etold]; exact ⟨σ 273 node, ⟨fun h => absurd h (by omega), fun _ => rfl⟩, ⟨fun h => absurd h (by omega), fun h => (by exfalso; first | exact (pr30.2.2 (by omega)) ⟨h.1, h.2.1⟩ | omega)⟩, fun h => absurd h (by omega)⟩))⟩
    · rw [zq_nr_p c3]
      have kr30 : zc_kd r30 = 4 := pr30.1 (by omega)
      have por30 := zc_pos kr30 rfl
      refine zr_ifnull (pc := 35) hV dX1_emit_35 ?_
      show V 38 [some (ZR 255), some (ZI node), some (ZI (σ 273 node)), some (ZR r30), none, none, none] [] 284 σ
      refine zr_aload_n (pc := 38) hV dX1_emit_38 rfl rfl ?_
      refine zr_getR (pc := 39) hV 7 274 dX1_emit_39 fX1_28 rfl rfl (zc_k255 zc_s255) (zc_pos zc_s255 rfl) (zc_g255_7 hσ zc_s255) (by decide) ?_
      refine zr_iload_n (pc := 42) hV dX1_emit_42 rfl rfl ?_
      refine zr_iald (pc := 43) hV dX1_emit_43 (zc_k274 zc_s274) (zc_pos zc_s274 rfl) rfl (by omega) ?_
      have t5 := zc_ga274 hσ zc_s274 node
      refine zr_aload_n (pc := 44) hV dX1_emit_44 rfl rfl ?_
      refine zr_getR (pc := 45) hV 0 3 dX1_emit_45 fX1_34 rfl rfl (zc_k255 zc_s255) (zc_pos zc_s255 rfl) (zc_g255_0 hσ zc_s255) (by decide) ?_
      refine zr_callVp (pc := 48) hV [] (st := [ZI (σ 274 node)]) (c_X9_registers_2 (σ := σ) hσ) dX1_emit_48 mX1_167 (zc_k3 zc_s3) (zc_pos zc_s3 rfl) (by decide) (Nat.le_of_ble_eq_true rfl) (Nat.le_refl _) (fun r48 hr48 pr48 => ?_)
      have t6 := zc_g3_1 hσ zc_s3
      refine zr_icmp_ge (pc := 51) hV 63 dX1_emit_51 (by decide) (by omega) (by omega) (fun c7 => ?_) (fun c7 => ?_)
      · show V 63 [some (ZR 255), some (ZI node), some (ZI (σ 273 node)), some (ZR r30), none, none, none] [] 284 σ
        refine zr_iconst (pc := 63) hV 0 dX1_emit_63 rfl ?_
        have t8 := zc_g255_9 hσ zc_s255
        exact zr_zret (pc := 64) hV dX1_emit_64 rfl rfl (by omega) ⟨_, rfl, ⟨by decide, by decide⟩, hσ, hFσ, (by omega), (show ∃ o, ((σ (σ 255 1 + 1) node = 1 → zp_LM σ o (σ 3 3) ∧ o < σ 3 3) ∧ (σ (σ 255 1 + 1) node ≠ 1 → o = σ 273 node)) ∧ ((0 : Int) = 1 ↔ 0 ≤ o ∧ o < σ 3 3 ∧ σ 274 node < zx_p2 (σ 3 1) ∧ σ 255 9 < 64) ∧ ((0 : Int) = 1 → σ 255 9 = σ 255 9 + 1 ∧ σ 275 (σ 255 9) = zm_cw σ (σ 255 1) node (σ 10 o) ∧ ∀ i, i ≠ σ 255 9 → σ 275 i = σ 275 i) from (by rw [etold]; exact ⟨σ 273 node, ⟨fun h => absurd h (by omega), fun _ => rfl⟩, ⟨fun h => absurd h (by omega), fun h => (by exfalso; first | exact (pr30.2.2 (by omega)) ⟨h.1, h.2.1⟩ | omega)⟩, fun h => absurd h (by omega)⟩))⟩
      · show V 54 [some (ZR 255), some (ZI node), some (ZI (σ 273 node)), some (ZR r30), none, none, none] [] 284 σ
        refine zr_aload_n (pc := 54) hV dX1_emit_54 rfl rfl ?_
        refine zr_getI (pc := 55) hV 9 dX1_emit_55 fX1_146 rfl rfl (zc_k255 zc_s255) (zc_pos zc_s255 rfl) ?_
        have t9 := zc_g255_9 hσ zc_s255
        refine zr_bipush (pc := 58) hV 64 dX1_emit_58 (by decide) ?_
        refine zr_icmp_lt (pc := 60) hV 65 dX1_emit_60 (by decide) (by omega) ⟨by decide, by decide⟩ (fun c10 => ?_) (fun c10 => ?_)
        · show V 65 [some (ZR 255), some (ZI node), some (ZI (σ 273 node)), some (ZR r30), none, none, none] [] 284 σ
          refine zr_aload_n (pc := 65) hV dX1_emit_65 rfl rfl ?_
          refine zr_aload_n (pc := 66) hV dX1_emit_66 rfl rfl ?_
          refine zr_getI (pc := 67) hV 2 dX1_emit_67 fX1_170 rfl rfl (zc_k4 kr30) (zc_pos kr30 rfl) ?_
          have t11 := zc_g4_2 hσ kr30
          refine zr_iconst (pc := 70) hV 0 dX1_emit_70 rfl ?_
          refine zr_aload_n (pc := 71) hV dX1_emit_71 rfl rfl ?_
          refine zr_getR (pc := 72) hV 7 274 dX1_emit_72 fX1_28 rfl rfl (zc_k255 zc_s255) (zc_pos zc_s255 rfl) (zc_g255_7 hσ zc_s255) (by decide) ?_
          refine zr_iload_n (pc := 75) hV dX1_emit_75 rfl rfl ?_
          refine zr_iald (pc := 76) hV dX1_emit_76 (zc_k274 zc_s274) (zc_pos zc_s274 rfl) rfl (by omega) ?_
          have t12 := zc_ga274 hσ zc_s274 node
          have t13 := zc_g4_2 hσ kr30
          refine zr_callVp (pc := 77) hV [ZI (σ r30 2), ZI 0, ZI (σ 274 node)] (st := []) (c_X3_withField_6 (σ := σ) hσ r30 kr30 (σ r30 2) 0 (σ 274 node) (by omega) (by omega) (by omega)) dX1_emit_77 mX1_173 (zc_k4 kr30) (zc_pos kr30 rfl) (by decide) (Nat.le_of_ble_eq_true rfl) (Nat.le_refl _) (fun r77 hr77 pr77 => ?_)
          have t14 := zc_g4_2 hσ kr30
          refine zr_istore (pc := 80) hV [some (ZR 255), some (ZI node), some (ZI (σ 273 node)), some (ZR r30), some (ZI r77), none, none] dX1_emit_80 (by decide) rfl rfl ?_
          refine zr_aload_n (pc := 82) hV dX1_emit_82 rfl rfl ?_
          refine zr_getI (pc := 83) hV 14 dX1_emit_83 fX1_105 rfl rfl (zc_k4 kr30) (zc_pos kr30 rfl) ?_
          have t15 := zc_g4_14 hσ kr30
          refine zr_iconst (pc := 86) hV 2 dX1_emit_86 rfl ?_
          refine zr_icmp_ne (pc := 87) hV 111 dX1_emit_87 (by decide) (by omega) ⟨by decide, by decide⟩ (fun c16 => ?_) (fun c16 => ?_)
          · show V 111 [some (ZR 255), some (ZI node), some (ZI (σ 273 node)), some (ZR r30), some (ZI r77), none, none] [] 284 σ
            refine zr_aload_n (pc := 111) hV dX1_emit_111 rfl rfl ?_
            refine zr_getI (pc := 112) hV 14 dX1_emit_112 fX1_105 rfl rfl (zc_k4 kr30) (zc_pos kr30 rfl) ?_
            have t17 := zc_g4_14 hσ kr30
            refine zr_iconst (pc := 115) hV 1 dX1_emit_115 rfl ?_
            refine zr_icmp_ne (pc := 116) hV 140 dX1_emit_116 (by decide) (by omega) ⟨by decide, by decide⟩ (fun c18 => ?_) (fun c18 => ?_)
            · show V 140 [some (ZR 255), some (ZI node), some (ZI (σ 273 node)), some (ZR r30), some (ZI r77), none, none] [] 284 σ
              refine zr_aload_n (pc := 140) hV dX1_emit_140 rfl rfl ?_
              refine zr_getR (pc := 141) hV 1 told dX1_emit_141 fX1_12 rfl rfl (zc_k255 zc_s255) (zc_pos zc_s255 rfl) (by omega) (zc_pos ktold rfl).1 ?_
              refine zr_getR (pc := 144) hV 2 (told + 3) dX1_emit_144 fX1_122 rfl rfl (zc_k256 ktold) (zc_pos ktold rfl) (zc_g256_2 hσ ktold) (zc_pos (zc_p256_3 ktold) rfl).1 ?_
              refine zr_iload_n (pc := 147) hV dX1_emit_147 rfl rfl ?_
              refine zr_iald (pc := 148) hV dX1_emit_148 (zc_k259 (zc_p256_3 ktold)) (zc_pos (zc_p256_3 ktold) rfl) rfl (by omega) ?_
              have t19 := zc_ga259 hσ (zc_p256_3 ktold) node
              refine zr_istore (pc := 149) hV [some (ZR 255), some (ZI node), some (ZI (σ 273 node)), some (ZR r30), some (ZI r77), some (ZI (σ (told + 3) node)), none] dX1_emit_149 (by decide) rfl rfl ?_
              refine zr_aload_n (pc := 151) hV dX1_emit_151 rfl rfl ?_
              refine zr_getR (pc := 152) hV 1 told dX1_emit_152 fX1_12 rfl rfl (zc_k255 zc_s255) (zc_pos zc_s255 rfl) (by omega) (zc_pos ktold rfl).1 ?_
              refine zr_getR (pc := 155) hV 3 (told + 4) dX1_emit_155 fX1_125 rfl rfl (zc_k256 ktold) (zc_pos ktold rfl) (zc_g256_3 hσ ktold) (zc_pos (zc_p256_4 ktold) rfl).1 ?_
              refine zr_iload_n (pc := 158) hV dX1_emit_158 rfl rfl ?_
              refine zr_iald (pc := 159) hV dX1_emit_159 (zc_k260 (zc_p256_4 ktold)) (zc_pos (zc_p256_4 ktold) rfl) rfl (by omega) ?_
              have t20 := zc_ga260 hσ (zc_p256_4 ktold) node
              refine zr_istore (pc := 160) hV [some (ZR 255), some (ZI node), some (ZI (σ 273 node)), some (ZR r30), some (ZI r77), some (ZI (σ (told + 3) node)), some (ZI (σ (told + 4) node))] dX1_emit_160 (by decide) rfl rfl ?_
              refine zr_aload_n (pc := 162) hV dX1_emit_162 rfl rfl ?_
              refine zr_iload (pc := 163) hV dX1_emit_163 rfl ?_
              refine zr_iconst (pc := 165) hV 1 dX1_emit_165 rfl ?_
              refine zr_aload_n (pc := 166) hV dX1_emit_166 rfl rfl ?_
              refine zr_aload_n (pc := 167) hV dX1_emit_167 rfl rfl ?_
              refine zr_getI (pc := 168) hV 14 dX1_emit_168 fX1_105 rfl rfl (zc_k4 kr30) (zc_pos kr30 rfl) ?_
              have t21 := zc_g4_14 hσ kr30
              refine zr_iconst (pc := 171) hV 5 dX1_emit_171 rfl ?_
              refine zr_icmp_ne (pc := 172) hV 180 dX1_emit_172 (by decide) (by omega) ⟨by decide, by decide⟩ (fun c22 => ?_) (fun c22 => ?_)
              · show V 180 [some (ZR 255), some (ZI node), some (ZI (σ 273 node)), some (ZR r30), some (ZI r77), some (ZI (σ (told + 3) node)), some (ZI (σ (told + 4) node))] [ZR 255, ZI 1, ZI r77, ZR r30] 284 σ
                refine zr_iload (pc := 180) hV dX1_emit_180 rfl ?_
                show V 182 [some (ZR 255), some (ZI node), some (ZI (σ 273 node)), some (ZR r30), some (ZI r77), some (ZI (σ (told + 3) node)), some (ZI (σ (told + 4) node))] [ZI (σ (told + 3) node), ZR 255, ZI 1, ZI r77, ZR r30] 284 σ
                refine zr_callVp (pc := 182) hV [ZI (σ (told + 3) node)] (st := [ZI 1, ZI r77, ZR r30]) (c_X1_registerOf_2 (σ := σ) hσ (σ (told + 3) node) (by omega)) dX1_emit_182 mX1_177 (zc_k255 zc_s255) (zc_pos zc_s255 rfl) (by decide) (Nat.le_of_ble_eq_true rfl) (Nat.le_refl _) (fun r182 hr182 pr182 => ?_)
                rw [etold] at pr182
                refine zr_callVp (pc := 185) hV [ZI r77, ZI 1, ZI r182] (st := []) (c_X3_withField_6 (σ := σ) hσ r30 kr30 r77 1 r182 (by omega) (by omega) (by omega)) dX1_emit_185 mX1_173 (zc_k4 kr30) (zc_pos kr30 rfl) (by decide) (Nat.le_of_ble_eq_true rfl) (Nat.le_refl _) (fun r185 hr185 pr185 => ?_)
                refine zr_istore (pc := 188) hV [some (ZR 255), some (ZI node), some (ZI (σ 273 node)), some (ZR r30), some (ZI r185), some (ZI (σ (told + 3) node)), some (ZI (σ (told + 4) node))] dX1_emit_188 (by decide) rfl rfl ?_
                refine zr_aload_n (pc := 190) hV dX1_emit_190 rfl rfl ?_
                refine zr_iload (pc := 191) hV dX1_emit_191 rfl ?_
                refine zr_iconst (pc := 193) hV 2 dX1_emit_193 rfl ?_
                refine zr_aload_n (pc := 194) hV dX1_emit_194 rfl rfl ?_
                refine zr_iload (pc := 195) hV dX1_emit_195 rfl ?_
                refine zr_callVp (pc := 197) hV [ZI (σ (told + 4) node)] (st := [ZI 2, ZI r185, ZR r30]) (c_X1_registerOf_2 (σ := σ) hσ (σ (told + 4) node) (by omega)) dX1_emit_197 mX1_177 (zc_k255 zc_s255) (zc_pos zc_s255 rfl) (by decide) (Nat.le_of_ble_eq_true rfl) (Nat.le_refl _) (fun r197 hr197 pr197 => ?_)
                rw [etold] at pr197
                refine zr_callVp (pc := 200) hV [ZI r185, ZI 2, ZI r197] (st := []) (c_X3_withField_6 (σ := σ) hσ r30 kr30 r185 2 r197 (by omega) (by omega) (by omega)) dX1_emit_200 mX1_173 (zc_k4 kr30) (zc_pos kr30 rfl) (by decide) (Nat.le_of_ble_eq_true rfl) (Nat.le_refl _) (fun r200 hr200 pr200 => ?_)
                refine zr_istore (pc := 203) hV [some (ZR 255), some (ZI node), some (ZI (σ 273 node)), some (ZR r30), some (ZI r200), some (ZI (σ (told + 3) node)), some (ZI (σ (told + 4) node))] dX1_emit_203 (by decide) rfl rfl ?_
                refine zr_aload_n (pc := 205) hV dX1_emit_205 rfl rfl ?_
                refine zr_iload (pc := 206) hV dX1_emit_206 rfl ?_
                refine zr_iconst (pc := 208) hV 3 dX1_emit_208 rfl ?_
                refine zr_aload_n (pc := 209) hV dX1_emit_209 rfl rfl ?_
                refine zr_getR (pc := 210) hV 1 told dX1_emit_210 fX1_12 rfl rfl (zc_k255 zc_s255) (zc_pos zc_s255 rfl) (by omega) (zc_pos ktold rfl).1 ?_
                refine zr_getR (pc := 213) hV 1 (told + 2) dX1_emit_213 fX1_73 rfl rfl (zc_k256 ktold) (zc_pos ktold rfl) (zc_g256_1 hσ ktold) (zc_pos (zc_p256_2 ktold) rfl).1 ?_
                refine zr_iload (pc := 216) hV dX1_emit_216 rfl ?_
                refine zr_iald (pc := 218) hV dX1_emit_218 (zc_k258 (zc_p256_2 ktold)) (zc_pos (zc_p256_2 ktold) rfl) rfl (by omega) ?_
                have t23 := zc_ga258 hσ (zc_p256_2 ktold) (σ (told + 4) node)
                refine zr_callVp (pc := 219) hV [ZI r200, ZI 3, ZI (σ (told + 2) (σ (told + 4) node))] (st := []) (c_X3_withField_6 (σ := σ) hσ r30 kr30 r200 3 (σ (told + 2) (σ (told + 4) node)) (by omega) (by omega) (by omega)) dX1_emit_219 mX1_173 (zc_k4 kr30) (zc_pos kr30 rfl) (by decide) (Nat.le_of_ble_eq_true rfl) (Nat.le_refl _) (fun r219 hr219 pr219 => ?_)
                refine zr_istore (pc := 222) hV [some (ZR 255), some (ZI node), some (ZI (σ 273 node)), some (ZR r30), some (ZI r219), some (ZI (σ (told + 3) node)), some (ZI (σ (told + 4) node))] dX1_emit_222 (by decide) rfl rfl ?_
                show V 224 [some (ZR 255), some (ZI node), some (ZI (σ 273 node)), some (ZR r30), some (ZI r219), some (ZI (σ (told + 3) node)), some (ZI (σ (told + 4) node))] [] 284 σ
                refine zr_aload_n (pc := 224) hV dX1_emit_224 rfl rfl ?_
                refine zr_getR (pc := 225) hV 8 275 dX1_emit_225 fX1_31 rfl rfl (zc_k255 zc_s255) (zc_pos zc_s255 rfl) (zc_g255_8 hσ zc_s255) (by decide) ?_
                refine zr_aload_n (pc := 228) hV dX1_emit_228 rfl rfl ?_
                refine zr_dup (pc := 229) hV dX1_emit_229 (fun _ => rfl) ?_
                refine zr_getI (pc := 230) hV 9 dX1_emit_230 fX1_146 rfl rfl (zc_k255 zc_s255) (zc_pos zc_s255 rfl) ?_
                have t24 := zc_g255_9 hσ zc_s255
                refine zr_dup_x1 (pc := 233) hV dX1_emit_233 (fun _ => rfl) (fun _ => rfl) ?_
                refine zr_iconst (pc := 234) hV 1 dX1_emit_234 rfl ?_
                refine zr_iadd (pc := 235) hV dX1_emit_235 ?_
                refine zr_putI (pc := 236) hV 9 dX1_emit_236 fX1_146 rfl rfl rfl (zc_k255 zc_s255) (zc_pos zc_s255 rfl) (fun σ236 eσ236 => ?_)
                have hσ236 : zc_T σ236 := zc_u255_9 eσ236 hσ zc_s255 (by omega)
                have hFσ236 := zc_Fw eσ236 zc_s255 rfl hFσ
                refine zr_iload (pc := 239) hV dX1_emit_239 rfl ?_
                refine zr_iast (pc := 241) hV dX1_emit_241 (zc_k275 zc_s275) (zc_pos zc_s275 rfl) rfl (by omega) (fun σ241 eσ241 => ?_)
                have hσ241 : zc_T σ241 := zc_ua275 eσ241 hσ236 zc_s275 (by omega)
                have hFσ241 := zc_Fa eσ241 zc_s275 rfl hFσ236
                refine zr_iconst (pc := 242) hV 1 dX1_emit_242 rfl ?_
                have t25 := zc_g255_9 hσ241 zc_s255
                have t26 : σ241 255 9 = σ236 255 9 := by rw [eσ241]; exact zq_up_ne (zc_dk zc_s255 zc_s275 rfl)
                have t27 : σ236 255 9 = (σ 255 9) + 1 := by rw [eσ236]; exact zq_up_same _ _ _ _
                exact zr_zret (pc := 243) hV dX1_emit_243 rfl rfl (by omega) ⟨_, rfl, ⟨by decide, by decide⟩, hσ241, hFσ241, (by omega), (show ∃ o, ((σ (σ 255 1 + 1) node = 1 → zp_LM σ o (σ 3 3) ∧ o < σ 3 3) ∧ (σ (σ 255 1 + 1) node ≠ 1 → o = σ 273 node)) ∧ ((1 : Int) = 1 ↔ 0 ≤ o ∧ o < σ 3 3 ∧ σ 274 node < zx_p2 (σ 3 1) ∧ σ 255 9 < 64) ∧ ((1 : Int) = 1 → σ241 255 9 = σ 255 9 + 1 ∧ σ241 275 (σ 255 9) = zm_cw σ (σ 255 1) node (σ 10 o) ∧ ∀ i, i ≠ σ 255 9 → σ241 275 i = σ 275 i) from (by rw [etold]; exact ⟨σ 273 node, ⟨fun h => absurd h (by omega), fun _ => rfl⟩, ⟨fun _ => ⟨(pr30.2.1 (by omega)).1, (pr30.2.1 (by omega)).2.1, by omega, by omega⟩, fun _ => rfl⟩, fun _ => ⟨by omega, by rw [← (pr30.2.1 (by omega)).2.2, eσ241, zq_up_same]; exact (by rw [zm_cw_o (by omega), ← pr77.2, ← pr182, ← pr185.2, ← pr197, ← pr200.2, ← pr219.2]), fun i hi => by rw [eσ241, zq_up_ne (by omega), eσ236, zq_up_ne (by omega)]⟩⟩))⟩
              · show V 175 [some (ZR 255), some (ZI node), some (ZI (σ 273 node)), some (ZR r30), some (ZI r77), some (ZI (σ (told + 3) node)), some (ZI (σ (told + 4) node))] [ZR 255, ZI 1, ZI r77, ZR r30] 284 σ
                refine zr_iload (pc := 175) hV dX1_emit_175 rfl ?_
                refine zr_goto (pc := 177) hV 182 dX1_emit_177 (by decide) ?_
                show V 182 [some (ZR 255), some (ZI node), some (ZI (σ 273 node)), some (ZR r30), some (ZI r77), some (ZI (σ (told + 3) node)), some (ZI (σ (told + 4) node))] [ZI (σ (told + 4) node), ZR 255, ZI 1, ZI r77, ZR r30] 284 σ
                refine zr_callVp (pc := 182) hV [ZI (σ (told + 4) node)] (st := [ZI 1, ZI r77, ZR r30]) (c_X1_registerOf_2 (σ := σ) hσ (σ (told + 4) node) (by omega)) dX1_emit_182 mX1_177 (zc_k255 zc_s255) (zc_pos zc_s255 rfl) (by decide) (Nat.le_of_ble_eq_true rfl) (Nat.le_refl _) (fun r182 hr182 pr182 => ?_)
                rw [etold] at pr182
                refine zr_callVp (pc := 185) hV [ZI r77, ZI 1, ZI r182] (st := []) (c_X3_withField_6 (σ := σ) hσ r30 kr30 r77 1 r182 (by omega) (by omega) (by omega)) dX1_emit_185 mX1_173 (zc_k4 kr30) (zc_pos kr30 rfl) (by decide) (Nat.le_of_ble_eq_true rfl) (Nat.le_refl _) (fun r185 hr185 pr185 => ?_)
                refine zr_istore (pc := 188) hV [some (ZR 255), some (ZI node), some (ZI (σ 273 node)), some (ZR r30), some (ZI r185), some (ZI (σ (told + 3) node)), some (ZI (σ (told + 4) node))] dX1_emit_188 (by decide) rfl rfl ?_
                refine zr_aload_n (pc := 190) hV dX1_emit_190 rfl rfl ?_
                refine zr_iload (pc := 191) hV dX1_emit_191 rfl ?_
                refine zr_iconst (pc := 193) hV 2 dX1_emit_193 rfl ?_
                refine zr_aload_n (pc := 194) hV dX1_emit_194 rfl rfl ?_
                refine zr_iload (pc := 195) hV dX1_emit_195 rfl ?_
                refine zr_callVp (pc := 197) hV [ZI (σ (told + 4) node)] (st := [ZI 2, ZI r185, ZR r30]) (c_X1_registerOf_2 (σ := σ) hσ (σ (told + 4) node) (by omega)) dX1_emit_197 mX1_177 (zc_k255 zc_s255) (zc_pos zc_s255 rfl) (by decide) (Nat.le_of_ble_eq_true rfl) (Nat.le_refl _) (fun r197 hr197 pr197 => ?_)
                rw [etold] at pr197
                refine zr_callVp (pc := 200) hV [ZI r185, ZI 2, ZI r197] (st := []) (c_X3_withField_6 (σ := σ) hσ r30 kr30 r185 2 r197 (by omega) (by omega) (by omega)) dX1_emit_200 mX1_173 (zc_k4 kr30) (zc_pos kr30 rfl) (by decide) (Nat.le_of_ble_eq_true rfl) (Nat.le_refl _) (fun r200 hr200 pr200 => ?_)
                refine zr_istore (pc := 203) hV [some (ZR 255), some (ZI node), some (ZI (σ 273 node)), some (ZR r30), some (ZI r200), some (ZI (σ (told + 3) node)), some (ZI (σ (told + 4) node))] dX1_emit_203 (by decide) rfl rfl ?_
                refine zr_aload_n (pc := 205) hV dX1_emit_205 rfl rfl ?_
                refine zr_iload (pc := 206) hV dX1_emit_206 rfl ?_
                refine zr_iconst (pc := 208) hV 3 dX1_emit_208 rfl ?_
                refine zr_aload_n (pc := 209) hV dX1_emit_209 rfl rfl ?_
                refine zr_getR (pc := 210) hV 1 told dX1_emit_210 fX1_12 rfl rfl (zc_k255 zc_s255) (zc_pos zc_s255 rfl) (by omega) (zc_pos ktold rfl).1 ?_
                refine zr_getR (pc := 213) hV 1 (told + 2) dX1_emit_213 fX1_73 rfl rfl (zc_k256 ktold) (zc_pos ktold rfl) (zc_g256_1 hσ ktold) (zc_pos (zc_p256_2 ktold) rfl).1 ?_
                refine zr_iload (pc := 216) hV dX1_emit_216 rfl ?_
                refine zr_iald (pc := 218) hV dX1_emit_218 (zc_k258 (zc_p256_2 ktold)) (zc_pos (zc_p256_2 ktold) rfl) rfl (by omega) ?_
                have t28 := zc_ga258 hσ (zc_p256_2 ktold) (σ (told + 4) node)
                refine zr_callVp (pc := 219) hV [ZI r200, ZI 3, ZI (σ (told + 2) (σ (told + 4) node))] (st := []) (c_X3_withField_6 (σ := σ) hσ r30 kr30 r200 3 (σ (told + 2) (σ (told + 4) node)) (by omega) (by omega) (by omega)) dX1_emit_219 mX1_173 (zc_k4 kr30) (zc_pos kr30 rfl) (by decide) (Nat.le_of_ble_eq_true rfl) (Nat.le_refl _) (fun r219 hr219 pr219 => ?_)
                refine zr_istore (pc := 222) hV [some (ZR 255), some (ZI node), some (ZI (σ 273 node)), some (ZR r30), some (ZI r219), some (ZI (σ (told + 3) node)), some (ZI (σ (told + 4) node))] dX1_emit_222 (by decide) rfl rfl ?_
                show V 224 [some (ZR 255), some (ZI node), some (ZI (σ 273 node)), some (ZR r30), some (ZI r219), some (ZI (σ (told + 3) node)), some (ZI (σ (told + 4) node))] [] 284 σ
                refine zr_aload_n (pc := 224) hV dX1_emit_224 rfl rfl ?_
                refine zr_getR (pc := 225) hV 8 275 dX1_emit_225 fX1_31 rfl rfl (zc_k255 zc_s255) (zc_pos zc_s255 rfl) (zc_g255_8 hσ zc_s255) (by decide) ?_
                refine zr_aload_n (pc := 228) hV dX1_emit_228 rfl rfl ?_
                refine zr_dup (pc := 229) hV dX1_emit_229 (fun _ => rfl) ?_
                refine zr_getI (pc := 230) hV 9 dX1_emit_230 fX1_146 rfl rfl (zc_k255 zc_s255) (zc_pos zc_s255 rfl) ?_
                have t29 := zc_g255_9 hσ zc_s255
                refine zr_dup_x1 (pc := 233) hV dX1_emit_233 (fun _ => rfl) (fun _ => rfl) ?_
                refine zr_iconst (pc := 234) hV 1 dX1_emit_234 rfl ?_
                refine zr_iadd (pc := 235) hV dX1_emit_235 ?_
                refine zr_putI (pc := 236) hV 9 dX1_emit_236 fX1_146 rfl rfl rfl (zc_k255 zc_s255) (zc_pos zc_s255 rfl) (fun σ236 eσ236 => ?_)
                have hσ236 : zc_T σ236 := zc_u255_9 eσ236 hσ zc_s255 (by omega)
                have hFσ236 := zc_Fw eσ236 zc_s255 rfl hFσ
                refine zr_iload (pc := 239) hV dX1_emit_239 rfl ?_
                refine zr_iast (pc := 241) hV dX1_emit_241 (zc_k275 zc_s275) (zc_pos zc_s275 rfl) rfl (by omega) (fun σ241 eσ241 => ?_)
                have hσ241 : zc_T σ241 := zc_ua275 eσ241 hσ236 zc_s275 (by omega)
                have hFσ241 := zc_Fa eσ241 zc_s275 rfl hFσ236
                refine zr_iconst (pc := 242) hV 1 dX1_emit_242 rfl ?_
                have t30 := zc_g255_9 hσ241 zc_s255
                have t31 : σ241 255 9 = σ236 255 9 := by rw [eσ241]; exact zq_up_ne (zc_dk zc_s255 zc_s275 rfl)
                have t32 : σ236 255 9 = (σ 255 9) + 1 := by rw [eσ236]; exact zq_up_same _ _ _ _
                exact zr_zret (pc := 243) hV dX1_emit_243 rfl rfl (by omega) ⟨_, rfl, ⟨by decide, by decide⟩, hσ241, hFσ241, (by omega), (show ∃ o, ((σ (σ 255 1 + 1) node = 1 → zp_LM σ o (σ 3 3) ∧ o < σ 3 3) ∧ (σ (σ 255 1 + 1) node ≠ 1 → o = σ 273 node)) ∧ ((1 : Int) = 1 ↔ 0 ≤ o ∧ o < σ 3 3 ∧ σ 274 node < zx_p2 (σ 3 1) ∧ σ 255 9 < 64) ∧ ((1 : Int) = 1 → σ241 255 9 = σ 255 9 + 1 ∧ σ241 275 (σ 255 9) = zm_cw σ (σ 255 1) node (σ 10 o) ∧ ∀ i, i ≠ σ 255 9 → σ241 275 i = σ 275 i) from (by rw [etold]; exact ⟨σ 273 node, ⟨fun h => absurd h (by omega), fun _ => rfl⟩, ⟨fun _ => ⟨(pr30.2.1 (by omega)).1, (pr30.2.1 (by omega)).2.1, by omega, by omega⟩, fun _ => rfl⟩, fun _ => ⟨by omega, by rw [← (pr30.2.1 (by omega)).2.2, eσ241, zq_up_same]; exact (by rw [zm_cw_5 (by omega), ← pr77.2, ← pr182, ← pr185.2, show r182 = r197 by rw [pr182, pr197], ← pr200.2, ← pr219.2]), fun i hi => by rw [eσ241, zq_up_ne (by omega), eσ236, zq_up_ne (by omega)]⟩⟩))⟩
            · show V 119 [some (ZR 255), some (ZI node), some (ZI (σ 273 node)), some (ZR r30), some (ZI r77), none, none] [] 284 σ
              refine zr_aload_n (pc := 119) hV dX1_emit_119 rfl rfl ?_
              refine zr_iload (pc := 120) hV dX1_emit_120 rfl ?_
              refine zr_iconst (pc := 122) hV 3 dX1_emit_122 rfl ?_
              refine zr_aload_n (pc := 123) hV dX1_emit_123 rfl rfl ?_
              refine zr_getR (pc := 124) hV 1 told dX1_emit_124 fX1_12 rfl rfl (zc_k255 zc_s255) (zc_pos zc_s255 rfl) (by omega) (zc_pos ktold rfl).1 ?_
              refine zr_getR (pc := 127) hV 1 (told + 2) dX1_emit_127 fX1_73 rfl rfl (zc_k256 ktold) (zc_pos ktold rfl) (zc_g256_1 hσ ktold) (zc_pos (zc_p256_2 ktold) rfl).1 ?_
              refine zr_iload_n (pc := 130) hV dX1_emit_130 rfl rfl ?_
              refine zr_iald (pc := 131) hV dX1_emit_131 (zc_k258 (zc_p256_2 ktold)) (zc_pos (zc_p256_2 ktold) rfl) rfl (by omega) ?_
              have t33 := zc_ga258 hσ (zc_p256_2 ktold) node
              refine zr_callVp (pc := 132) hV [ZI r77, ZI 3, ZI (σ (told + 2) node)] (st := []) (c_X3_withField_6 (σ := σ) hσ r30 kr30 r77 3 (σ (told + 2) node) (by omega) (by omega) (by omega)) dX1_emit_132 mX1_173 (zc_k4 kr30) (zc_pos kr30 rfl) (by decide) (Nat.le_of_ble_eq_true rfl) (Nat.le_refl _) (fun r132 hr132 pr132 => ?_)
              refine zr_istore (pc := 135) hV [some (ZR 255), some (ZI node), some (ZI (σ 273 node)), some (ZR r30), some (ZI r132), none, none] dX1_emit_135 (by decide) rfl rfl ?_
              refine zr_goto (pc := 137) hV 224 dX1_emit_137 (by decide) ?_
              show V 224 [some (ZR 255), some (ZI node), some (ZI (σ 273 node)), some (ZR r30), some (ZI r132), none, none] [] 284 σ
              refine zr_aload_n (pc := 224) hV dX1_emit_224 rfl rfl ?_
              refine zr_getR (pc := 225) hV 8 275 dX1_emit_225 fX1_31 rfl rfl (zc_k255 zc_s255) (zc_pos zc_s255 rfl) (zc_g255_8 hσ zc_s255) (by decide) ?_
              refine zr_aload_n (pc := 228) hV dX1_emit_228 rfl rfl ?_
              refine zr_dup (pc := 229) hV dX1_emit_229 (fun _ => rfl) ?_
              refine zr_getI (pc := 230) hV 9 dX1_emit_230 fX1_146 rfl rfl (zc_k255 zc_s255) (zc_pos zc_s255 rfl) ?_
              have t34 := zc_g255_9 hσ zc_s255
              refine zr_dup_x1 (pc := 233) hV dX1_emit_233 (fun _ => rfl) (fun _ => rfl) ?_
              refine zr_iconst (pc := 234) hV 1 dX1_emit_234 rfl ?_
              refine zr_iadd (pc := 235) hV dX1_emit_235 ?_
              refine zr_putI (pc := 236) hV 9 dX1_emit_236 fX1_146 rfl rfl rfl (zc_k255 zc_s255) (zc_pos zc_s255 rfl) (fun σ236 eσ236 => ?_)
              have hσ236 : zc_T σ236 := zc_u255_9 eσ236 hσ zc_s255 (by omega)
              have hFσ236 := zc_Fw eσ236 zc_s255 rfl hFσ
              refine zr_iload (pc := 239) hV dX1_emit_239 rfl ?_
              refine zr_iast (pc := 241) hV dX1_emit_241 (zc_k275 zc_s275) (zc_pos zc_s275 rfl) rfl (by omega) (fun σ241 eσ241 => ?_)
              have hσ241 : zc_T σ241 := zc_ua275 eσ241 hσ236 zc_s275 (by omega)
              have hFσ241 := zc_Fa eσ241 zc_s275 rfl hFσ236
              refine zr_iconst (pc := 242) hV 1 dX1_emit_242 rfl ?_
              have t35 := zc_g255_9 hσ241 zc_s255
              have t36 : σ241 255 9 = σ236 255 9 := by rw [eσ241]; exact zq_up_ne (zc_dk zc_s255 zc_s275 rfl)
              have t37 : σ236 255 9 = (σ 255 9) + 1 := by rw [eσ236]; exact zq_up_same _ _ _ _
              exact zr_zret (pc := 243) hV dX1_emit_243 rfl rfl (by omega) ⟨_, rfl, ⟨by decide, by decide⟩, hσ241, hFσ241, (by omega), (show ∃ o, ((σ (σ 255 1 + 1) node = 1 → zp_LM σ o (σ 3 3) ∧ o < σ 3 3) ∧ (σ (σ 255 1 + 1) node ≠ 1 → o = σ 273 node)) ∧ ((1 : Int) = 1 ↔ 0 ≤ o ∧ o < σ 3 3 ∧ σ 274 node < zx_p2 (σ 3 1) ∧ σ 255 9 < 64) ∧ ((1 : Int) = 1 → σ241 255 9 = σ 255 9 + 1 ∧ σ241 275 (σ 255 9) = zm_cw σ (σ 255 1) node (σ 10 o) ∧ ∀ i, i ≠ σ 255 9 → σ241 275 i = σ 275 i) from (by rw [etold]; exact ⟨σ 273 node, ⟨fun h => absurd h (by omega), fun _ => rfl⟩, ⟨fun _ => ⟨(pr30.2.1 (by omega)).1, (pr30.2.1 (by omega)).2.1, by omega, by omega⟩, fun _ => rfl⟩, fun _ => ⟨by omega, by rw [← (pr30.2.1 (by omega)).2.2, eσ241, zq_up_same]; exact (by rw [zm_cw_1 (by omega), ← pr77.2, ← pr132.2]), fun i hi => by rw [eσ241, zq_up_ne (by omega), eσ236, zq_up_ne (by omega)]⟩⟩))⟩
          · show V 90 [some (ZR 255), some (ZI node), some (ZI (σ 273 node)), some (ZR r30), some (ZI r77), none, none] [] 284 σ
            refine zr_aload_n (pc := 90) hV dX1_emit_90 rfl rfl ?_
            refine zr_iload (pc := 91) hV dX1_emit_91 rfl ?_
            refine zr_iconst (pc := 93) hV 1 dX1_emit_93 rfl ?_
            refine zr_aload_n (pc := 94) hV dX1_emit_94 rfl rfl ?_
            refine zr_getR (pc := 95) hV 1 told dX1_emit_95 fX1_12 rfl rfl (zc_k255 zc_s255) (zc_pos zc_s255 rfl) (by omega) (zc_pos ktold rfl).1 ?_
            refine zr_getR (pc := 98) hV 1 (told + 2) dX1_emit_98 fX1_73 rfl rfl (zc_k256 ktold) (zc_pos ktold rfl) (zc_g256_1 hσ ktold) (zc_pos (zc_p256_2 ktold) rfl).1 ?_
            refine zr_iload_n (pc := 101) hV dX1_emit_101 rfl rfl ?_
            refine zr_iald (pc := 102) hV dX1_emit_102 (zc_k258 (zc_p256_2 ktold)) (zc_pos (zc_p256_2 ktold) rfl) rfl (by omega) ?_
            have t38 := zc_ga258 hσ (zc_p256_2 ktold) node
            refine zr_callVp (pc := 103) hV [ZI r77, ZI 1, ZI (σ (told + 2) node)] (st := []) (c_X3_withField_6 (σ := σ) hσ r30 kr30 r77 1 (σ (told + 2) node) (by omega) (by omega) (by omega)) dX1_emit_103 mX1_173 (zc_k4 kr30) (zc_pos kr30 rfl) (by decide) (Nat.le_of_ble_eq_true rfl) (Nat.le_refl _) (fun r103 hr103 pr103 => ?_)
            refine zr_istore (pc := 106) hV [some (ZR 255), some (ZI node), some (ZI (σ 273 node)), some (ZR r30), some (ZI r103), none, none] dX1_emit_106 (by decide) rfl rfl ?_
            refine zr_goto (pc := 108) hV 224 dX1_emit_108 (by decide) ?_
            show V 224 [some (ZR 255), some (ZI node), some (ZI (σ 273 node)), some (ZR r30), some (ZI r103), none, none] [] 284 σ
            refine zr_aload_n (pc := 224) hV dX1_emit_224 rfl rfl ?_
            refine zr_getR (pc := 225) hV 8 275 dX1_emit_225 fX1_31 rfl rfl (zc_k255 zc_s255) (zc_pos zc_s255 rfl) (zc_g255_8 hσ zc_s255) (by decide) ?_
            refine zr_aload_n (pc := 228) hV dX1_emit_228 rfl rfl ?_
            refine zr_dup (pc := 229) hV dX1_emit_229 (fun _ => rfl) ?_
            refine zr_getI (pc := 230) hV 9 dX1_emit_230 fX1_146 rfl rfl (zc_k255 zc_s255) (zc_pos zc_s255 rfl) ?_
            have t39 := zc_g255_9 hσ zc_s255
            refine zr_dup_x1 (pc := 233) hV dX1_emit_233 (fun _ => rfl) (fun _ => rfl) ?_
            refine zr_iconst (pc := 234) hV 1 dX1_emit_234 rfl ?_
            refine zr_iadd (pc := 235) hV dX1_emit_235 ?_
            refine zr_putI (pc := 236) hV 9 dX1_emit_236 fX1_146 rfl rfl rfl (zc_k255 zc_s255) (zc_pos zc_s255 rfl) (fun σ236 eσ236 => ?_)
            have hσ236 : zc_T σ236 := zc_u255_9 eσ236 hσ zc_s255 (by omega)
            have hFσ236 := zc_Fw eσ236 zc_s255 rfl hFσ
            refine zr_iload (pc := 239) hV dX1_emit_239 rfl ?_
            refine zr_iast (pc := 241) hV dX1_emit_241 (zc_k275 zc_s275) (zc_pos zc_s275 rfl) rfl (by omega) (fun σ241 eσ241 => ?_)
            have hσ241 : zc_T σ241 := zc_ua275 eσ241 hσ236 zc_s275 (by omega)
            have hFσ241 := zc_Fa eσ241 zc_s275 rfl hFσ236
            refine zr_iconst (pc := 242) hV 1 dX1_emit_242 rfl ?_
            have t40 := zc_g255_9 hσ241 zc_s255
            have t41 : σ241 255 9 = σ236 255 9 := by rw [eσ241]; exact zq_up_ne (zc_dk zc_s255 zc_s275 rfl)
            have t42 : σ236 255 9 = (σ 255 9) + 1 := by rw [eσ236]; exact zq_up_same _ _ _ _
            exact zr_zret (pc := 243) hV dX1_emit_243 rfl rfl (by omega) ⟨_, rfl, ⟨by decide, by decide⟩, hσ241, hFσ241, (by omega), (show ∃ o, ((σ (σ 255 1 + 1) node = 1 → zp_LM σ o (σ 3 3) ∧ o < σ 3 3) ∧ (σ (σ 255 1 + 1) node ≠ 1 → o = σ 273 node)) ∧ ((1 : Int) = 1 ↔ 0 ≤ o ∧ o < σ 3 3 ∧ σ 274 node < zx_p2 (σ 3 1) ∧ σ 255 9 < 64) ∧ ((1 : Int) = 1 → σ241 255 9 = σ 255 9 + 1 ∧ σ241 275 (σ 255 9) = zm_cw σ (σ 255 1) node (σ 10 o) ∧ ∀ i, i ≠ σ 255 9 → σ241 275 i = σ 275 i) from (by rw [etold]; exact ⟨σ 273 node, ⟨fun h => absurd h (by omega), fun _ => rfl⟩, ⟨fun _ => ⟨(pr30.2.1 (by omega)).1, (pr30.2.1 (by omega)).2.1, by omega, by omega⟩, fun _ => rfl⟩, fun _ => ⟨by omega, by rw [← (pr30.2.1 (by omega)).2.2, eσ241, zq_up_same]; exact (by rw [zm_cw_2 (by omega), ← pr77.2, ← pr103.2]), fun i hi => by rw [eσ241, zq_up_ne (by omega), eσ236, zq_up_ne (by omega)]⟩⟩))⟩
        · show V 63 [some (ZR 255), some (ZI node), some (ZI (σ 273 node)), some (ZR r30), none, none, none] [] 284 σ
          refine zr_iconst (pc := 63) hV 0 dX1_emit_63 rfl ?_
          have t43 := zc_g255_9 hσ zc_s255
          exact zr_zret (pc := 64) hV dX1_emit_64 rfl rfl (by omega) ⟨_, rfl, ⟨by decide, by decide⟩, hσ, hFσ, (by omega), (show ∃ o, ((σ (σ 255 1 + 1) node = 1 → zp_LM σ o (σ 3 3) ∧ o < σ 3 3) ∧ (σ (σ 255 1 + 1) node ≠ 1 → o = σ 273 node)) ∧ ((0 : Int) = 1 ↔ 0 ≤ o ∧ o < σ 3 3 ∧ σ 274 node < zx_p2 (σ 3 1) ∧ σ 255 9 < 64) ∧ ((0 : Int) = 1 → σ 255 9 = σ 255 9 + 1 ∧ σ 275 (σ 255 9) = zm_cw σ (σ 255 1) node (σ 10 o) ∧ ∀ i, i ≠ σ 255 9 → σ 275 i = σ 275 i) from (by rw [etold]; exact ⟨σ 273 node, ⟨fun h => absurd h (by omega), fun _ => rfl⟩, ⟨fun h => absurd h (by omega), fun h => (by exfalso; first | exact (pr30.2.2 (by omega)) ⟨h.1, h.2.1⟩ | omega)⟩, fun h => absurd h (by omega)⟩))⟩
  · show V 11 [some (ZR 255), some (ZI node), none, none, none, none, none] [] 284 σ
    refine zr_aload_n (pc := 11) hV dX1_emit_11 rfl rfl ?_
    have t44 := zc_g3_3 hσ zc_s3
    refine zr_callVp (pc := 12) hV [] (st := []) (c_X1_leastMove_2 (σ := σ) hσ q1) dX1_emit_12 mX1_56 (zc_k255 zc_s255) (zc_pos zc_s255 rfl) (by decide) (Nat.le_of_ble_eq_true rfl) (Nat.le_refl _) (fun r12 hr12 pr12 => ?_)
    have t45 := zc_g3_3 hσ zc_s3
    refine zr_goto (pc := 15) hV 24 dX1_emit_15 (by decide) ?_
    show V 24 [some (ZR 255), some (ZI node), none, none, none, none, none] [ZI r12] 284 σ
    refine zr_istore_n (pc := 24) hV [some (ZR 255), some (ZI node), some (ZI r12), none, none, none, none] dX1_emit_24 rfl (by decide) rfl rfl ?_
    refine zr_aload_n (pc := 25) hV dX1_emit_25 rfl rfl ?_
    refine zr_getR (pc := 26) hV 0 3 dX1_emit_26 fX1_34 rfl rfl (zc_k255 zc_s255) (zc_pos zc_s255 rfl) (zc_g255_0 hσ zc_s255) (by decide) ?_
    refine zr_iload_n (pc := 29) hV dX1_emit_29 rfl rfl ?_
    refine zr_callVr (pc := 30) hV [ZI r12] (st := []) (c_X9_numbered_2 (σ := σ) hσ r12 (by omega)) dX1_emit_30 mX1_87 (zc_k3 zc_s3) (zc_pos zc_s3 rfl) (by decide) (Nat.le_of_ble_eq_true rfl) (Nat.le_refl _) (fun r30 pr30 => ?_)
    refine zr_astore_nQ (pc := 33) hV [some (ZR 255), some (ZI node), some (ZI r12), some (zq_nr r30), none, none, none] dX1_emit_33 rfl (by decide) rfl rfl ?_
    refine zr_aload_nQ (pc := 34) hV dX1_emit_34 rfl rfl ?_
    by_cases c46 : r30 < 0
    · rw [zq_nr_n c46]
      refine zr_ifnullN (pc := 35) hV 63 dX1_emit_35 (by decide) ?_
      show V 63 [some (ZR 255), some (ZI node), some (ZI r12), some (ZN), none, none, none] [] 284 σ
      refine zr_iconst (pc := 63) hV 0 dX1_emit_63 rfl ?_
      have t47 := zc_g255_9 hσ zc_s255
      exact zr_zret (pc := 64) hV dX1_emit_64 rfl rfl (by omega) ⟨_, rfl, ⟨by decide, by decide⟩, hσ, hFσ, (by omega), (show ∃ o, ((σ (σ 255 1 + 1) node = 1 → zp_LM σ o (σ 3 3) ∧ o < σ 3 3) ∧ (σ (σ 255 1 + 1) node ≠ 1 → o = σ 273 node)) ∧ ((0 : Int) = 1 ↔ 0 ≤ o ∧ o < σ 3 3 ∧ σ 274 node < zx_p2 (σ 3 1) ∧ σ 255 9 < 64) ∧ ((0 : Int) = 1 → σ 255 9 = σ 255 9 + 1 ∧ σ 275 (σ 255 9) = zm_cw σ (σ 255 1) node (σ 10 o) ∧ ∀ i, i ≠ σ 255 9 → σ 275 i = σ 275 i) from (by rw [etold]; exact ⟨r12, ⟨fun _ => ⟨pr12.2.2, by omega⟩, fun h => absurd (by omega) h⟩, ⟨fun h => absurd h (by omega), fun h => (by exfalso; first | exact (pr30.2.2 (by omega)) ⟨h.1, h.2.1⟩ | omega)⟩, fun h => absurd h (by omega)⟩))⟩
    · rw [zq_nr_p c46]
      have kr30 : zc_kd r30 = 4 := pr30.1 (by omega)
      have por30 := zc_pos kr30 rfl
      refine zr_ifnull (pc := 35) hV dX1_emit_35 ?_
      show V 38 [some (ZR 255), some (ZI node), some (ZI r12), some (ZR r30), none, none, none] [] 284 σ
      refine zr_aload_n (pc := 38) hV dX1_emit_38 rfl rfl ?_
      refine zr_getR (pc := 39) hV 7 274 dX1_emit_39 fX1_28 rfl rfl (zc_k255 zc_s255) (zc_pos zc_s255 rfl) (zc_g255_7 hσ zc_s255) (by decide) ?_
      refine zr_iload_n (pc := 42) hV dX1_emit_42 rfl rfl ?_
      refine zr_iald (pc := 43) hV dX1_emit_43 (zc_k274 zc_s274) (zc_pos zc_s274 rfl) rfl (by omega) ?_
      have t48 := zc_ga274 hσ zc_s274 node
      refine zr_aload_n (pc := 44) hV dX1_emit_44 rfl rfl ?_
      refine zr_getR (pc := 45) hV 0 3 dX1_emit_45 fX1_34 rfl rfl (zc_k255 zc_s255) (zc_pos zc_s255 rfl) (zc_g255_0 hσ zc_s255) (by decide) ?_
      refine zr_callVp (pc := 48) hV [] (st := [ZI (σ 274 node)]) (c_X9_registers_2 (σ := σ) hσ) dX1_emit_48 mX1_167 (zc_k3 zc_s3) (zc_pos zc_s3 rfl) (by decide) (Nat.le_of_ble_eq_true rfl) (Nat.le_refl _) (fun r48 hr48 pr48 => ?_)
      have t49 := zc_g3_1 hσ zc_s3
      refine zr_icmp_ge (pc := 51) hV 63 dX1_emit_51 (by decide) (by omega) (by omega) (fun c50 => ?_) (fun c50 => ?_)
      · show V 63 [some (ZR 255), some (ZI node), some (ZI r12), some (ZR r30), none, none, none] [] 284 σ
        refine zr_iconst (pc := 63) hV 0 dX1_emit_63 rfl ?_
        have t51 := zc_g255_9 hσ zc_s255
        exact zr_zret (pc := 64) hV dX1_emit_64 rfl rfl (by omega) ⟨_, rfl, ⟨by decide, by decide⟩, hσ, hFσ, (by omega), (show ∃ o, ((σ (σ 255 1 + 1) node = 1 → zp_LM σ o (σ 3 3) ∧ o < σ 3 3) ∧ (σ (σ 255 1 + 1) node ≠ 1 → o = σ 273 node)) ∧ ((0 : Int) = 1 ↔ 0 ≤ o ∧ o < σ 3 3 ∧ σ 274 node < zx_p2 (σ 3 1) ∧ σ 255 9 < 64) ∧ ((0 : Int) = 1 → σ 255 9 = σ 255 9 + 1 ∧ σ 275 (σ 255 9) = zm_cw σ (σ 255 1) node (σ 10 o) ∧ ∀ i, i ≠ σ 255 9 → σ 275 i = σ 275 i) from (by rw [etold]; exact ⟨r12, ⟨fun _ => ⟨pr12.2.2, by omega⟩, fun h => absurd (by omega) h⟩, ⟨fun h => absurd h (by omega), fun h => (by exfalso; first | exact (pr30.2.2 (by omega)) ⟨h.1, h.2.1⟩ | omega)⟩, fun h => absurd h (by omega)⟩))⟩
      · show V 54 [some (ZR 255), some (ZI node), some (ZI r12), some (ZR r30), none, none, none] [] 284 σ
        refine zr_aload_n (pc := 54) hV dX1_emit_54 rfl rfl ?_
        refine zr_getI (pc := 55) hV 9 dX1_emit_55 fX1_146 rfl rfl (zc_k255 zc_s255) (zc_pos zc_s255 rfl) ?_
        have t52 := zc_g255_9 hσ zc_s255
        refine zr_bipush (pc := 58) hV 64 dX1_emit_58 (by decide) ?_
        refine zr_icmp_lt (pc := 60) hV 65 dX1_emit_60 (by decide) (by omega) ⟨by decide, by decide⟩ (fun c53 => ?_) (fun c53 => ?_)
        · show V 65 [some (ZR 255), some (ZI node), some (ZI r12), some (ZR r30), none, none, none] [] 284 σ
          refine zr_aload_n (pc := 65) hV dX1_emit_65 rfl rfl ?_
          refine zr_aload_n (pc := 66) hV dX1_emit_66 rfl rfl ?_
          refine zr_getI (pc := 67) hV 2 dX1_emit_67 fX1_170 rfl rfl (zc_k4 kr30) (zc_pos kr30 rfl) ?_
          have t54 := zc_g4_2 hσ kr30
          refine zr_iconst (pc := 70) hV 0 dX1_emit_70 rfl ?_
          refine zr_aload_n (pc := 71) hV dX1_emit_71 rfl rfl ?_
          refine zr_getR (pc := 72) hV 7 274 dX1_emit_72 fX1_28 rfl rfl (zc_k255 zc_s255) (zc_pos zc_s255 rfl) (zc_g255_7 hσ zc_s255) (by decide) ?_
          refine zr_iload_n (pc := 75) hV dX1_emit_75 rfl rfl ?_
          refine zr_iald (pc := 76) hV dX1_emit_76 (zc_k274 zc_s274) (zc_pos zc_s274 rfl) rfl (by omega) ?_
          have t55 := zc_ga274 hσ zc_s274 node
          have t56 := zc_g4_2 hσ kr30
          refine zr_callVp (pc := 77) hV [ZI (σ r30 2), ZI 0, ZI (σ 274 node)] (st := []) (c_X3_withField_6 (σ := σ) hσ r30 kr30 (σ r30 2) 0 (σ 274 node) (by omega) (by omega) (by omega)) dX1_emit_77 mX1_173 (zc_k4 kr30) (zc_pos kr30 rfl) (by decide) (Nat.le_of_ble_eq_true rfl) (Nat.le_refl _) (fun r77 hr77 pr77 => ?_)
          have t57 := zc_g4_2 hσ kr30
          refine zr_istore (pc := 80) hV [some (ZR 255), some (ZI node), some (ZI r12), some (ZR r30), some (ZI r77), none, none] dX1_emit_80 (by decide) rfl rfl ?_
          refine zr_aload_n (pc := 82) hV dX1_emit_82 rfl rfl ?_
          refine zr_getI (pc := 83) hV 14 dX1_emit_83 fX1_105 rfl rfl (zc_k4 kr30) (zc_pos kr30 rfl) ?_
          have t58 := zc_g4_14 hσ kr30
          refine zr_iconst (pc := 86) hV 2 dX1_emit_86 rfl ?_
          refine zr_icmp_ne (pc := 87) hV 111 dX1_emit_87 (by decide) (by omega) ⟨by decide, by decide⟩ (fun c59 => ?_) (fun c59 => ?_)
          · show V 111 [some (ZR 255), some (ZI node), some (ZI r12), some (ZR r30), some (ZI r77), none, none] [] 284 σ
            refine zr_aload_n (pc := 111) hV dX1_emit_111 rfl rfl ?_
            refine zr_getI (pc := 112) hV 14 dX1_emit_112 fX1_105 rfl rfl (zc_k4 kr30) (zc_pos kr30 rfl) ?_
            have t60 := zc_g4_14 hσ kr30
            refine zr_iconst (pc := 115) hV 1 dX1_emit_115 rfl ?_
            refine zr_icmp_ne (pc := 116) hV 140 dX1_emit_116 (by decide) (by omega) ⟨by decide, by decide⟩ (fun c61 => ?_) (fun c61 => ?_)
            · show V 140 [some (ZR 255), some (ZI node), some (ZI r12), some (ZR r30), some (ZI r77), none, none] [] 284 σ
              refine zr_aload_n (pc := 140) hV dX1_emit_140 rfl rfl ?_
              refine zr_getR (pc := 141) hV 1 told dX1_emit_141 fX1_12 rfl rfl (zc_k255 zc_s255) (zc_pos zc_s255 rfl) (by omega) (zc_pos ktold rfl).1 ?_
              refine zr_getR (pc := 144) hV 2 (told + 3) dX1_emit_144 fX1_122 rfl rfl (zc_k256 ktold) (zc_pos ktold rfl) (zc_g256_2 hσ ktold) (zc_pos (zc_p256_3 ktold) rfl).1 ?_
              refine zr_iload_n (pc := 147) hV dX1_emit_147 rfl rfl ?_
              refine zr_iald (pc := 148) hV dX1_emit_148 (zc_k259 (zc_p256_3 ktold)) (zc_pos (zc_p256_3 ktold) rfl) rfl (by omega) ?_
              have t62 := zc_ga259 hσ (zc_p256_3 ktold) node
              refine zr_istore (pc := 149) hV [some (ZR 255), some (ZI node), some (ZI r12), some (ZR r30), some (ZI r77), some (ZI (σ (told + 3) node)), none] dX1_emit_149 (by decide) rfl rfl ?_
              refine zr_aload_n (pc := 151) hV dX1_emit_151 rfl rfl ?_
              refine zr_getR (pc := 152) hV 1 told dX1_emit_152 fX1_12 rfl rfl (zc_k255 zc_s255) (zc_pos zc_s255 rfl) (by omega) (zc_pos ktold rfl).1 ?_
              refine zr_getR (pc := 155) hV 3 (told + 4) dX1_emit_155 fX1_125 rfl rfl (zc_k256 ktold) (zc_pos ktold rfl) (zc_g256_3 hσ ktold) (zc_pos (zc_p256_4 ktold) rfl).1 ?_
              refine zr_iload_n (pc := 158) hV dX1_emit_158 rfl rfl ?_
              refine zr_iald (pc := 159) hV dX1_emit_159 (zc_k260 (zc_p256_4 ktold)) (zc_pos (zc_p256_4 ktold) rfl) rfl (by omega) ?_
              have t63 := zc_ga260 hσ (zc_p256_4 ktold) node
              refine zr_istore (pc := 160) hV [some (ZR 255), some (ZI node), some (ZI r12), some (ZR r30), some (ZI r77), some (ZI (σ (told + 3) node)), some (ZI (σ (told + 4) node))] dX1_emit_160 (by decide) rfl rfl ?_
              refine zr_aload_n (pc := 162) hV dX1_emit_162 rfl rfl ?_
              refine zr_iload (pc := 163) hV dX1_emit_163 rfl ?_
              refine zr_iconst (pc := 165) hV 1 dX1_emit_165 rfl ?_
              refine zr_aload_n (pc := 166) hV dX1_emit_166 rfl rfl ?_
              refine zr_aload_n (pc := 167) hV dX1_emit_167 rfl rfl ?_
              refine zr_getI (pc := 168) hV 14 dX1_emit_168 fX1_105 rfl rfl (zc_k4 kr30) (zc_pos kr30 rfl) ?_
              have t64 := zc_g4_14 hσ kr30
              refine zr_iconst (pc := 171) hV 5 dX1_emit_171 rfl ?_
              refine zr_icmp_ne (pc := 172) hV 180 dX1_emit_172 (by decide) (by omega) ⟨by decide, by decide⟩ (fun c65 => ?_) (fun c65 => ?_)
              · show V 180 [some (ZR 255), some (ZI node), some (ZI r12), some (ZR r30), some (ZI r77), some (ZI (σ (told + 3) node)), some (ZI (σ (told + 4) node))] [ZR 255, ZI 1, ZI r77, ZR r30] 284 σ
                refine zr_iload (pc := 180) hV dX1_emit_180 rfl ?_
                show V 182 [some (ZR 255), some (ZI node), some (ZI r12), some (ZR r30), some (ZI r77), some (ZI (σ (told + 3) node)), some (ZI (σ (told + 4) node))] [ZI (σ (told + 3) node), ZR 255, ZI 1, ZI r77, ZR r30] 284 σ
                refine zr_callVp (pc := 182) hV [ZI (σ (told + 3) node)] (st := [ZI 1, ZI r77, ZR r30]) (c_X1_registerOf_2 (σ := σ) hσ (σ (told + 3) node) (by omega)) dX1_emit_182 mX1_177 (zc_k255 zc_s255) (zc_pos zc_s255 rfl) (by decide) (Nat.le_of_ble_eq_true rfl) (Nat.le_refl _) (fun r182 hr182 pr182 => ?_)
                rw [etold] at pr182
                refine zr_callVp (pc := 185) hV [ZI r77, ZI 1, ZI r182] (st := []) (c_X3_withField_6 (σ := σ) hσ r30 kr30 r77 1 r182 (by omega) (by omega) (by omega)) dX1_emit_185 mX1_173 (zc_k4 kr30) (zc_pos kr30 rfl) (by decide) (Nat.le_of_ble_eq_true rfl) (Nat.le_refl _) (fun r185 hr185 pr185 => ?_)
                refine zr_istore (pc := 188) hV [some (ZR 255), some (ZI node), some (ZI r12), some (ZR r30), some (ZI r185), some (ZI (σ (told + 3) node)), some (ZI (σ (told + 4) node))] dX1_emit_188 (by decide) rfl rfl ?_
                refine zr_aload_n (pc := 190) hV dX1_emit_190 rfl rfl ?_
                refine zr_iload (pc := 191) hV dX1_emit_191 rfl ?_
                refine zr_iconst (pc := 193) hV 2 dX1_emit_193 rfl ?_
                refine zr_aload_n (pc := 194) hV dX1_emit_194 rfl rfl ?_
                refine zr_iload (pc := 195) hV dX1_emit_195 rfl ?_
                refine zr_callVp (pc := 197) hV [ZI (σ (told + 4) node)] (st := [ZI 2, ZI r185, ZR r30]) (c_X1_registerOf_2 (σ := σ) hσ (σ (told + 4) node) (by omega)) dX1_emit_197 mX1_177 (zc_k255 zc_s255) (zc_pos zc_s255 rfl) (by decide) (Nat.le_of_ble_eq_true rfl) (Nat.le_refl _) (fun r197 hr197 pr197 => ?_)
                rw [etold] at pr197
                refine zr_callVp (pc := 200) hV [ZI r185, ZI 2, ZI r197] (st := []) (c_X3_withField_6 (σ := σ) hσ r30 kr30 r185 2 r197 (by omega) (by omega) (by omega)) dX1_emit_200 mX1_173 (zc_k4 kr30) (zc_pos kr30 rfl) (by decide) (Nat.le_of_ble_eq_true rfl) (Nat.le_refl _) (fun r200 hr200 pr200 => ?_)
                refine zr_istore (pc := 203) hV [some (ZR 255), some (ZI node), some (ZI r12), some (ZR r30), some (ZI r200), some (ZI (σ (told + 3) node)), some (ZI (σ (told + 4) node))] dX1_emit_203 (by decide) rfl rfl ?_
                refine zr_aload_n (pc := 205) hV dX1_emit_205 rfl rfl ?_
                refine zr_iload (pc := 206) hV dX1_emit_206 rfl ?_
                refine zr_iconst (pc := 208) hV 3 dX1_emit_208 rfl ?_
                refine zr_aload_n (pc := 209) hV dX1_emit_209 rfl rfl ?_
                refine zr_getR (pc := 210) hV 1 told dX1_emit_210 fX1_12 rfl rfl (zc_k255 zc_s255) (zc_pos zc_s255 rfl) (by omega) (zc_pos ktold rfl).1 ?_
                refine zr_getR (pc := 213) hV 1 (told + 2) dX1_emit_213 fX1_73 rfl rfl (zc_k256 ktold) (zc_pos ktold rfl) (zc_g256_1 hσ ktold) (zc_pos (zc_p256_2 ktold) rfl).1 ?_
                refine zr_iload (pc := 216) hV dX1_emit_216 rfl ?_
                refine zr_iald (pc := 218) hV dX1_emit_218 (zc_k258 (zc_p256_2 ktold)) (zc_pos (zc_p256_2 ktold) rfl) rfl (by omega) ?_
                have t66 := zc_ga258 hσ (zc_p256_2 ktold) (σ (told + 4) node)
                refine zr_callVp (pc := 219) hV [ZI r200, ZI 3, ZI (σ (told + 2) (σ (told + 4) node))] (st := []) (c_X3_withField_6 (σ := σ) hσ r30 kr30 r200 3 (σ (told + 2) (σ (told + 4) node)) (by omega) (by omega) (by omega)) dX1_emit_219 mX1_173 (zc_k4 kr30) (zc_pos kr30 rfl) (by decide) (Nat.le_of_ble_eq_true rfl) (Nat.le_refl _) (fun r219 hr219 pr219 => ?_)
                refine zr_istore (pc := 222) hV [some (ZR 255), some (ZI node), some (ZI r12), some (ZR r30), some (ZI r219), some (ZI (σ (told + 3) node)), some (ZI (σ (told + 4) node))] dX1_emit_222 (by decide) rfl rfl ?_
                show V 224 [some (ZR 255), some (ZI node), some (ZI r12), some (ZR r30), some (ZI r219), some (ZI (σ (told + 3) node)), some (ZI (σ (told + 4) node))] [] 284 σ
                refine zr_aload_n (pc := 224) hV dX1_emit_224 rfl rfl ?_
                refine zr_getR (pc := 225) hV 8 275 dX1_emit_225 fX1_31 rfl rfl (zc_k255 zc_s255) (zc_pos zc_s255 rfl) (zc_g255_8 hσ zc_s255) (by decide) ?_
                refine zr_aload_n (pc := 228) hV dX1_emit_228 rfl rfl ?_
                refine zr_dup (pc := 229) hV dX1_emit_229 (fun _ => rfl) ?_
                refine zr_getI (pc := 230) hV 9 dX1_emit_230 fX1_146 rfl rfl (zc_k255 zc_s255) (zc_pos zc_s255 rfl) ?_
                have t67 := zc_g255_9 hσ zc_s255
                refine zr_dup_x1 (pc := 233) hV dX1_emit_233 (fun _ => rfl) (fun _ => rfl) ?_
                refine zr_iconst (pc := 234) hV 1 dX1_emit_234 rfl ?_
                refine zr_iadd (pc := 235) hV dX1_emit_235 ?_
                refine zr_putI (pc := 236) hV 9 dX1_emit_236 fX1_146 rfl rfl rfl (zc_k255 zc_s255) (zc_pos zc_s255 rfl) (fun σ236 eσ236 => ?_)
                have hσ236 : zc_T σ236 := zc_u255_9 eσ236 hσ zc_s255 (by omega)
                have hFσ236 := zc_Fw eσ236 zc_s255 rfl hFσ
                refine zr_iload (pc := 239) hV dX1_emit_239 rfl ?_
                refine zr_iast (pc := 241) hV dX1_emit_241 (zc_k275 zc_s275) (zc_pos zc_s275 rfl) rfl (by omega) (fun σ241 eσ241 => ?_)
                have hσ241 : zc_T σ241 := zc_ua275 eσ241 hσ236 zc_s275 (by omega)
                have hFσ241 := zc_Fa eσ241 zc_s275 rfl hFσ236
                refine zr_iconst (pc := 242) hV 1 dX1_emit_242 rfl ?_
                have t68 := zc_g255_9 hσ241 zc_s255
                have t69 : σ241 255 9 = σ236 255 9 := by rw [eσ241]; exact zq_up_ne (zc_dk zc_s255 zc_s275 rfl)
                have t70 : σ236 255 9 = (σ 255 9) + 1 := by rw [eσ236]; exact zq_up_same _ _ _ _
                exact zr_zret (pc := 243) hV dX1_emit_243 rfl rfl (by omega) ⟨_, rfl, ⟨by decide, by decide⟩, hσ241, hFσ241, (by omega), (show ∃ o, ((σ (σ 255 1 + 1) node = 1 → zp_LM σ o (σ 3 3) ∧ o < σ 3 3) ∧ (σ (σ 255 1 + 1) node ≠ 1 → o = σ 273 node)) ∧ ((1 : Int) = 1 ↔ 0 ≤ o ∧ o < σ 3 3 ∧ σ 274 node < zx_p2 (σ 3 1) ∧ σ 255 9 < 64) ∧ ((1 : Int) = 1 → σ241 255 9 = σ 255 9 + 1 ∧ σ241 275 (σ 255 9) = zm_cw σ (σ 255 1) node (σ 10 o) ∧ ∀ i, i ≠ σ 255 9 → σ241 275 i = σ 275 i) from (by rw [etold]; exact ⟨r12, ⟨fun _ => ⟨pr12.2.2, by omega⟩, fun h => absurd (by omega) h⟩, ⟨fun _ => ⟨(pr30.2.1 (by omega)).1, (pr30.2.1 (by omega)).2.1, by omega, by omega⟩, fun _ => rfl⟩, fun _ => ⟨by omega, by rw [← (pr30.2.1 (by omega)).2.2, eσ241, zq_up_same]; exact (by rw [zm_cw_o (by omega), ← pr77.2, ← pr182, ← pr185.2, ← pr197, ← pr200.2, ← pr219.2]), fun i hi => by rw [eσ241, zq_up_ne (by omega), eσ236, zq_up_ne (by omega)]⟩⟩))⟩
              · show V 175 [some (ZR 255), some (ZI node), some (ZI r12), some (ZR r30), some (ZI r77), some (ZI (σ (told + 3) node)), some (ZI (σ (told + 4) node))] [ZR 255, ZI 1, ZI r77, ZR r30] 284 σ
                refine zr_iload (pc := 175) hV dX1_emit_175 rfl ?_
                refine zr_goto (pc := 177) hV 182 dX1_emit_177 (by decide) ?_
                show V 182 [some (ZR 255), some (ZI node), some (ZI r12), some (ZR r30), some (ZI r77), some (ZI (σ (told + 3) node)), some (ZI (σ (told + 4) node))] [ZI (σ (told + 4) node), ZR 255, ZI 1, ZI r77, ZR r30] 284 σ
                refine zr_callVp (pc := 182) hV [ZI (σ (told + 4) node)] (st := [ZI 1, ZI r77, ZR r30]) (c_X1_registerOf_2 (σ := σ) hσ (σ (told + 4) node) (by omega)) dX1_emit_182 mX1_177 (zc_k255 zc_s255) (zc_pos zc_s255 rfl) (by decide) (Nat.le_of_ble_eq_true rfl) (Nat.le_refl _) (fun r182 hr182 pr182 => ?_)
                rw [etold] at pr182
                refine zr_callVp (pc := 185) hV [ZI r77, ZI 1, ZI r182] (st := []) (c_X3_withField_6 (σ := σ) hσ r30 kr30 r77 1 r182 (by omega) (by omega) (by omega)) dX1_emit_185 mX1_173 (zc_k4 kr30) (zc_pos kr30 rfl) (by decide) (Nat.le_of_ble_eq_true rfl) (Nat.le_refl _) (fun r185 hr185 pr185 => ?_)
                refine zr_istore (pc := 188) hV [some (ZR 255), some (ZI node), some (ZI r12), some (ZR r30), some (ZI r185), some (ZI (σ (told + 3) node)), some (ZI (σ (told + 4) node))] dX1_emit_188 (by decide) rfl rfl ?_
                refine zr_aload_n (pc := 190) hV dX1_emit_190 rfl rfl ?_
                refine zr_iload (pc := 191) hV dX1_emit_191 rfl ?_
                refine zr_iconst (pc := 193) hV 2 dX1_emit_193 rfl ?_
                refine zr_aload_n (pc := 194) hV dX1_emit_194 rfl rfl ?_
                refine zr_iload (pc := 195) hV dX1_emit_195 rfl ?_
                refine zr_callVp (pc := 197) hV [ZI (σ (told + 4) node)] (st := [ZI 2, ZI r185, ZR r30]) (c_X1_registerOf_2 (σ := σ) hσ (σ (told + 4) node) (by omega)) dX1_emit_197 mX1_177 (zc_k255 zc_s255) (zc_pos zc_s255 rfl) (by decide) (Nat.le_of_ble_eq_true rfl) (Nat.le_refl _) (fun r197 hr197 pr197 => ?_)
                rw [etold] at pr197
                refine zr_callVp (pc := 200) hV [ZI r185, ZI 2, ZI r197] (st := []) (c_X3_withField_6 (σ := σ) hσ r30 kr30 r185 2 r197 (by omega) (by omega) (by omega)) dX1_emit_200 mX1_173 (zc_k4 kr30) (zc_pos kr30 rfl) (by decide) (Nat.le_of_ble_eq_true rfl) (Nat.le_refl _) (fun r200 hr200 pr200 => ?_)
                refine zr_istore (pc := 203) hV [some (ZR 255), some (ZI node), some (ZI r12), some (ZR r30), some (ZI r200), some (ZI (σ (told + 3) node)), some (ZI (σ (told + 4) node))] dX1_emit_203 (by decide) rfl rfl ?_
                refine zr_aload_n (pc := 205) hV dX1_emit_205 rfl rfl ?_
                refine zr_iload (pc := 206) hV dX1_emit_206 rfl ?_
                refine zr_iconst (pc := 208) hV 3 dX1_emit_208 rfl ?_
                refine zr_aload_n (pc := 209) hV dX1_emit_209 rfl rfl ?_
                refine zr_getR (pc := 210) hV 1 told dX1_emit_210 fX1_12 rfl rfl (zc_k255 zc_s255) (zc_pos zc_s255 rfl) (by omega) (zc_pos ktold rfl).1 ?_
                refine zr_getR (pc := 213) hV 1 (told + 2) dX1_emit_213 fX1_73 rfl rfl (zc_k256 ktold) (zc_pos ktold rfl) (zc_g256_1 hσ ktold) (zc_pos (zc_p256_2 ktold) rfl).1 ?_
                refine zr_iload (pc := 216) hV dX1_emit_216 rfl ?_
                refine zr_iald (pc := 218) hV dX1_emit_218 (zc_k258 (zc_p256_2 ktold)) (zc_pos (zc_p256_2 ktold) rfl) rfl (by omega) ?_
                have t71 := zc_ga258 hσ (zc_p256_2 ktold) (σ (told + 4) node)
                refine zr_callVp (pc := 219) hV [ZI r200, ZI 3, ZI (σ (told + 2) (σ (told + 4) node))] (st := []) (c_X3_withField_6 (σ := σ) hσ r30 kr30 r200 3 (σ (told + 2) (σ (told + 4) node)) (by omega) (by omega) (by omega)) dX1_emit_219 mX1_173 (zc_k4 kr30) (zc_pos kr30 rfl) (by decide) (Nat.le_of_ble_eq_true rfl) (Nat.le_refl _) (fun r219 hr219 pr219 => ?_)
                refine zr_istore (pc := 222) hV [some (ZR 255), some (ZI node), some (ZI r12), some (ZR r30), some (ZI r219), some (ZI (σ (told + 3) node)), some (ZI (σ (told + 4) node))] dX1_emit_222 (by decide) rfl rfl ?_
                show V 224 [some (ZR 255), some (ZI node), some (ZI r12), some (ZR r30), some (ZI r219), some (ZI (σ (told + 3) node)), some (ZI (σ (told + 4) node))] [] 284 σ
                refine zr_aload_n (pc := 224) hV dX1_emit_224 rfl rfl ?_
                refine zr_getR (pc := 225) hV 8 275 dX1_emit_225 fX1_31 rfl rfl (zc_k255 zc_s255) (zc_pos zc_s255 rfl) (zc_g255_8 hσ zc_s255) (by decide) ?_
                refine zr_aload_n (pc := 228) hV dX1_emit_228 rfl rfl ?_
                refine zr_dup (pc := 229) hV dX1_emit_229 (fun _ => rfl) ?_
                refine zr_getI (pc := 230) hV 9 dX1_emit_230 fX1_146 rfl rfl (zc_k255 zc_s255) (zc_pos zc_s255 rfl) ?_
                have t72 := zc_g255_9 hσ zc_s255
                refine zr_dup_x1 (pc := 233) hV dX1_emit_233 (fun _ => rfl) (fun _ => rfl) ?_
                refine zr_iconst (pc := 234) hV 1 dX1_emit_234 rfl ?_
                refine zr_iadd (pc := 235) hV dX1_emit_235 ?_
                refine zr_putI (pc := 236) hV 9 dX1_emit_236 fX1_146 rfl rfl rfl (zc_k255 zc_s255) (zc_pos zc_s255 rfl) (fun σ236 eσ236 => ?_)
                have hσ236 : zc_T σ236 := zc_u255_9 eσ236 hσ zc_s255 (by omega)
                have hFσ236 := zc_Fw eσ236 zc_s255 rfl hFσ
                refine zr_iload (pc := 239) hV dX1_emit_239 rfl ?_
                refine zr_iast (pc := 241) hV dX1_emit_241 (zc_k275 zc_s275) (zc_pos zc_s275 rfl) rfl (by omega) (fun σ241 eσ241 => ?_)
                have hσ241 : zc_T σ241 := zc_ua275 eσ241 hσ236 zc_s275 (by omega)
                have hFσ241 := zc_Fa eσ241 zc_s275 rfl hFσ236
                refine zr_iconst (pc := 242) hV 1 dX1_emit_242 rfl ?_
                have t73 := zc_g255_9 hσ241 zc_s255
                have t74 : σ241 255 9 = σ236 255 9 := by rw [eσ241]; exact zq_up_ne (zc_dk zc_s255 zc_s275 rfl)
                have t75 : σ236 255 9 = (σ 255 9) + 1 := by rw [eσ236]; exact zq_up_same _ _ _ _
                exact zr_zret (pc := 243) hV dX1_emit_243 rfl rfl (by omega) ⟨_, rfl, ⟨by decide, by decide⟩, hσ241, hFσ241, (by omega), (show ∃ o, ((σ (σ 255 1 + 1) node = 1 → zp_LM σ o (σ 3 3) ∧ o < σ 3 3) ∧ (σ (σ 255 1 + 1) node ≠ 1 → o = σ 273 node)) ∧ ((1 : Int) = 1 ↔ 0 ≤ o ∧ o < σ 3 3 ∧ σ 274 node < zx_p2 (σ 3 1) ∧ σ 255 9 < 64) ∧ ((1 : Int) = 1 → σ241 255 9 = σ 255 9 + 1 ∧ σ241 275 (σ 255 9) = zm_cw σ (σ 255 1) node (σ 10 o) ∧ ∀ i, i ≠ σ 255 9 → σ241 275 i = σ 275 i) from (by rw [etold]; exact ⟨r12, ⟨fun _ => ⟨pr12.2.2, by omega⟩, fun h => absurd (by omega) h⟩, ⟨fun _ => ⟨(pr30.2.1 (by omega)).1, (pr30.2.1 (by omega)).2.1, by omega, by omega⟩, fun _ => rfl⟩, fun _ => ⟨by omega, by rw [← (pr30.2.1 (by omega)).2.2, eσ241, zq_up_same]; exact (by rw [zm_cw_5 (by omega), ← pr77.2, ← pr182, ← pr185.2, show r182 = r197 by rw [pr182, pr197], ← pr200.2, ← pr219.2]), fun i hi => by rw [eσ241, zq_up_ne (by omega), eσ236, zq_up_ne (by omega)]⟩⟩))⟩
            · show V 119 [some (ZR 255), some (ZI node), some (ZI r12), some (ZR r30), some (ZI r77), none, none] [] 284 σ
              refine zr_aload_n (pc := 119) hV dX1_emit_119 rfl rfl ?_
              refine zr_iload (pc := 120) hV dX1_emit_120 rfl ?_
              refine zr_iconst (pc := 122) hV 3 dX1_emit_122 rfl ?_
              refine zr_aload_n (pc := 123) hV dX1_emit_123 rfl rfl ?_
              refine zr_getR (pc := 124) hV 1 told dX1_emit_124 fX1_12 rfl rfl (zc_k255 zc_s255) (zc_pos zc_s255 rfl) (by omega) (zc_pos ktold rfl).1 ?_
              refine zr_getR (pc := 127) hV 1 (told + 2) dX1_emit_127 fX1_73 rfl rfl (zc_k256 ktold) (zc_pos ktold rfl) (zc_g256_1 hσ ktold) (zc_pos (zc_p256_2 ktold) rfl).1 ?_
              refine zr_iload_n (pc := 130) hV dX1_emit_130 rfl rfl ?_
              refine zr_iald (pc := 131) hV dX1_emit_131 (zc_k258 (zc_p256_2 ktold)) (zc_pos (zc_p256_2 ktold) rfl) rfl (by omega) ?_
              have t76 := zc_ga258 hσ (zc_p256_2 ktold) node
              refine zr_callVp (pc := 132) hV [ZI r77, ZI 3, ZI (σ (told + 2) node)] (st := []) (c_X3_withField_6 (σ := σ) hσ r30 kr30 r77 3 (σ (told + 2) node) (by omega) (by omega) (by omega)) dX1_emit_132 mX1_173 (zc_k4 kr30) (zc_pos kr30 rfl) (by decide) (Nat.le_of_ble_eq_true rfl) (Nat.le_refl _) (fun r132 hr132 pr132 => ?_)
              refine zr_istore (pc := 135) hV [some (ZR 255), some (ZI node), some (ZI r12), some (ZR r30), some (ZI r132), none, none] dX1_emit_135 (by decide) rfl rfl ?_
              refine zr_goto (pc := 137) hV 224 dX1_emit_137 (by decide) ?_
              show V 224 [some (ZR 255), some (ZI node), some (ZI r12), some (ZR r30), some (ZI r132), none, none] [] 284 σ
              refine zr_aload_n (pc := 224) hV dX1_emit_224 rfl rfl ?_
              refine zr_getR (pc := 225) hV 8 275 dX1_emit_225 fX1_31 rfl rfl (zc_k255 zc_s255) (zc_pos zc_s255 rfl) (zc_g255_8 hσ zc_s255) (by decide) ?_
              refine zr_aload_n (pc := 228) hV dX1_emit_228 rfl rfl ?_
              refine zr_dup (pc := 229) hV dX1_emit_229 (fun _ => rfl) ?_
              refine zr_getI (pc := 230) hV 9 dX1_emit_230 fX1_146 rfl rfl (zc_k255 zc_s255) (zc_pos zc_s255 rfl) ?_
              have t77 := zc_g255_9 hσ zc_s255
              refine zr_dup_x1 (pc := 233) hV dX1_emit_233 (fun _ => rfl) (fun _ => rfl) ?_
              refine zr_iconst (pc := 234) hV 1 dX1_emit_234 rfl ?_
              refine zr_iadd (pc := 235) hV dX1_emit_235 ?_
              refine zr_putI (pc := 236) hV 9 dX1_emit_236 fX1_146 rfl rfl rfl (zc_k255 zc_s255) (zc_pos zc_s255 rfl) (fun σ236 eσ236 => ?_)
              have hσ236 : zc_T σ236 := zc_u255_9 eσ236 hσ zc_s255 (by omega)
              have hFσ236 := zc_Fw eσ236 zc_s255 rfl hFσ
              refine zr_iload (pc := 239) hV dX1_emit_239 rfl ?_
              refine zr_iast (pc := 241) hV dX1_emit_241 (zc_k275 zc_s275) (zc_pos zc_s275 rfl) rfl (by omega) (fun σ241 eσ241 => ?_)
              have hσ241 : zc_T σ241 := zc_ua275 eσ241 hσ236 zc_s275 (by omega)
              have hFσ241 := zc_Fa eσ241 zc_s275 rfl hFσ236
              refine zr_iconst (pc := 242) hV 1 dX1_emit_242 rfl ?_
              have t78 := zc_g255_9 hσ241 zc_s255
              have t79 : σ241 255 9 = σ236 255 9 := by rw [eσ241]; exact zq_up_ne (zc_dk zc_s255 zc_s275 rfl)
              have t80 : σ236 255 9 = (σ 255 9) + 1 := by rw [eσ236]; exact zq_up_same _ _ _ _
              exact zr_zret (pc := 243) hV dX1_emit_243 rfl rfl (by omega) ⟨_, rfl, ⟨by decide, by decide⟩, hσ241, hFσ241, (by omega), (show ∃ o, ((σ (σ 255 1 + 1) node = 1 → zp_LM σ o (σ 3 3) ∧ o < σ 3 3) ∧ (σ (σ 255 1 + 1) node ≠ 1 → o = σ 273 node)) ∧ ((1 : Int) = 1 ↔ 0 ≤ o ∧ o < σ 3 3 ∧ σ 274 node < zx_p2 (σ 3 1) ∧ σ 255 9 < 64) ∧ ((1 : Int) = 1 → σ241 255 9 = σ 255 9 + 1 ∧ σ241 275 (σ 255 9) = zm_cw σ (σ 255 1) node (σ 10 o) ∧ ∀ i, i ≠ σ 255 9 → σ241 275 i = σ 275 i) from (by rw [etold]; exact ⟨r12, ⟨fun _ => ⟨pr12.2.2, by omega⟩, fun h => absurd (by omega) h⟩, ⟨fun _ => ⟨(pr30.2.1 (by omega)).1, (pr30.2.1 (by omega)).2.1, by omega, by omega⟩, fun _ => rfl⟩, fun _ => ⟨by omega, by rw [← (pr30.2.1 (by omega)).2.2, eσ241, zq_up_same]; exact (by rw [zm_cw_1 (by omega), ← pr77.2, ← pr132.2]), fun i hi => by rw [eσ241, zq_up_ne (by omega), eσ236, zq_up_ne (by omega)]⟩⟩))⟩
          · show V 90 [some (ZR 255), some (ZI node), some (ZI r12), some (ZR r30), some (ZI r77), none, none] [] 284 σ
            refine zr_aload_n (pc := 90) hV dX1_emit_90 rfl rfl ?_
            refine zr_iload (pc := 91) hV dX1_emit_91 rfl ?_
            refine zr_iconst (pc := 93) hV 1 dX1_emit_93 rfl ?_
            refine zr_aload_n (pc := 94) hV dX1_emit_94 rfl rfl ?_
            refine zr_getR (pc := 95) hV 1 told dX1_emit_95 fX1_12 rfl rfl (zc_k255 zc_s255) (zc_pos zc_s255 rfl) (by omega) (zc_pos ktold rfl).1 ?_
            refine zr_getR (pc := 98) hV 1 (told + 2) dX1_emit_98 fX1_73 rfl rfl (zc_k256 ktold) (zc_pos ktold rfl) (zc_g256_1 hσ ktold) (zc_pos (zc_p256_2 ktold) rfl).1 ?_
            refine zr_iload_n (pc := 101) hV dX1_emit_101 rfl rfl ?_
            refine zr_iald (pc := 102) hV dX1_emit_102 (zc_k258 (zc_p256_2 ktold)) (zc_pos (zc_p256_2 ktold) rfl) rfl (by omega) ?_
            have t81 := zc_ga258 hσ (zc_p256_2 ktold) node
            refine zr_callVp (pc := 103) hV [ZI r77, ZI 1, ZI (σ (told + 2) node)] (st := []) (c_X3_withField_6 (σ := σ) hσ r30 kr30 r77 1 (σ (told + 2) node) (by omega) (by omega) (by omega)) dX1_emit_103 mX1_173 (zc_k4 kr30) (zc_pos kr30 rfl) (by decide) (Nat.le_of_ble_eq_true rfl) (Nat.le_refl _) (fun r103 hr103 pr103 => ?_)
            refine zr_istore (pc := 106) hV [some (ZR 255), some (ZI node), some (ZI r12), some (ZR r30), some (ZI r103), none, none] dX1_emit_106 (by decide) rfl rfl ?_
            refine zr_goto (pc := 108) hV 224 dX1_emit_108 (by decide) ?_
            show V 224 [some (ZR 255), some (ZI node), some (ZI r12), some (ZR r30), some (ZI r103), none, none] [] 284 σ
            refine zr_aload_n (pc := 224) hV dX1_emit_224 rfl rfl ?_
            refine zr_getR (pc := 225) hV 8 275 dX1_emit_225 fX1_31 rfl rfl (zc_k255 zc_s255) (zc_pos zc_s255 rfl) (zc_g255_8 hσ zc_s255) (by decide) ?_
            refine zr_aload_n (pc := 228) hV dX1_emit_228 rfl rfl ?_
            refine zr_dup (pc := 229) hV dX1_emit_229 (fun _ => rfl) ?_
            refine zr_getI (pc := 230) hV 9 dX1_emit_230 fX1_146 rfl rfl (zc_k255 zc_s255) (zc_pos zc_s255 rfl) ?_
            have t82 := zc_g255_9 hσ zc_s255
            refine zr_dup_x1 (pc := 233) hV dX1_emit_233 (fun _ => rfl) (fun _ => rfl) ?_
            refine zr_iconst (pc := 234) hV 1 dX1_emit_234 rfl ?_
            refine zr_iadd (pc := 235) hV dX1_emit_235 ?_
            refine zr_putI (pc := 236) hV 9 dX1_emit_236 fX1_146 rfl rfl rfl (zc_k255 zc_s255) (zc_pos zc_s255 rfl) (fun σ236 eσ236 => ?_)
            have hσ236 : zc_T σ236 := zc_u255_9 eσ236 hσ zc_s255 (by omega)
            have hFσ236 := zc_Fw eσ236 zc_s255 rfl hFσ
            refine zr_iload (pc := 239) hV dX1_emit_239 rfl ?_
            refine zr_iast (pc := 241) hV dX1_emit_241 (zc_k275 zc_s275) (zc_pos zc_s275 rfl) rfl (by omega) (fun σ241 eσ241 => ?_)
            have hσ241 : zc_T σ241 := zc_ua275 eσ241 hσ236 zc_s275 (by omega)
            have hFσ241 := zc_Fa eσ241 zc_s275 rfl hFσ236
            refine zr_iconst (pc := 242) hV 1 dX1_emit_242 rfl ?_
            have t83 := zc_g255_9 hσ241 zc_s255
            have t84 : σ241 255 9 = σ236 255 9 := by rw [eσ241]; exact zq_up_ne (zc_dk zc_s255 zc_s275 rfl)
            have t85 : σ236 255 9 = (σ 255 9) + 1 := by rw [eσ236]; exact zq_up_same _ _ _ _
            exact zr_zret (pc := 243) hV dX1_emit_243 rfl rfl (by omega) ⟨_, rfl, ⟨by decide, by decide⟩, hσ241, hFσ241, (by omega), (show ∃ o, ((σ (σ 255 1 + 1) node = 1 → zp_LM σ o (σ 3 3) ∧ o < σ 3 3) ∧ (σ (σ 255 1 + 1) node ≠ 1 → o = σ 273 node)) ∧ ((1 : Int) = 1 ↔ 0 ≤ o ∧ o < σ 3 3 ∧ σ 274 node < zx_p2 (σ 3 1) ∧ σ 255 9 < 64) ∧ ((1 : Int) = 1 → σ241 255 9 = σ 255 9 + 1 ∧ σ241 275 (σ 255 9) = zm_cw σ (σ 255 1) node (σ 10 o) ∧ ∀ i, i ≠ σ 255 9 → σ241 275 i = σ 275 i) from (by rw [etold]; exact ⟨r12, ⟨fun _ => ⟨pr12.2.2, by omega⟩, fun h => absurd (by omega) h⟩, ⟨fun _ => ⟨(pr30.2.1 (by omega)).1, (pr30.2.1 (by omega)).2.1, by omega, by omega⟩, fun _ => rfl⟩, fun _ => ⟨by omega, by rw [← (pr30.2.1 (by omega)).2.2, eσ241, zq_up_same]; exact (by rw [zm_cw_2 (by omega), ← pr77.2, ← pr103.2]), fun i hi => by rw [eσ241, zq_up_ne (by omega), eσ236, zq_up_ne (by omega)]⟩⟩))⟩
        · show V 63 [some (ZR 255), some (ZI node), some (ZI r12), some (ZR r30), none, none, none] [] 284 σ
          refine zr_iconst (pc := 63) hV 0 dX1_emit_63 rfl ?_
          have t86 := zc_g255_9 hσ zc_s255
          exact zr_zret (pc := 64) hV dX1_emit_64 rfl rfl (by omega) ⟨_, rfl, ⟨by decide, by decide⟩, hσ, hFσ, (by omega), (show ∃ o, ((σ (σ 255 1 + 1) node = 1 → zp_LM σ o (σ 3 3) ∧ o < σ 3 3) ∧ (σ (σ 255 1 + 1) node ≠ 1 → o = σ 273 node)) ∧ ((0 : Int) = 1 ↔ 0 ≤ o ∧ o < σ 3 3 ∧ σ 274 node < zx_p2 (σ 3 1) ∧ σ 255 9 < 64) ∧ ((0 : Int) = 1 → σ 255 9 = σ 255 9 + 1 ∧ σ 275 (σ 255 9) = zm_cw σ (σ 255 1) node (σ 10 o) ∧ ∀ i, i ≠ σ 255 9 → σ 275 i = σ 275 i) from (by rw [etold]; exact ⟨r12, ⟨fun _ => ⟨pr12.2.2, by omega⟩, fun h => absurd (by omega) h⟩, ⟨fun h => absurd h (by omega), fun h => (by exfalso; first | exact (pr30.2.2 (by omega)) ⟨h.1, h.2.1⟩ | omega)⟩, fun h => absurd h (by omega)⟩))⟩
set_option maxHeartbeats 800000 in
theorem c_X1_makeInto_2 {σ : zq_S} (hσ : zc_T σ) (place : Int) (q0 : 0 ≤ place ∧ place ≤ 63) (q1 : zp_P2 σ) (q2 : zp_SD σ (σ 255 1)) (Nσ : zc_N σ) : zq_C zc_w yX1_makeInto cX1_makeInto 4 (some .int) 6 135 284 284 [ZR 255, ZR 139, ZI place] σ (zq_pi (fun r τ => zc_T τ ∧ zc_Fr [(139, -1), (255, 9), (272, -1), (273, -1), (274, -1), (275, -1)] σ τ ∧ (True) ∧ zq_hid (zm_AR σ τ place r) ∧ zc_N τ)) := by
  refine zq_C_of (by decide) (Nat.le_refl _) (Nat.le_of_ble_eq_true rfl) [some (ZR 255), some (ZR 139), some (ZI place), none] rfl (fun V hV => ?_)
  have hFσ := zc_Fr_rf [(139, -1), (255, 9), (272, -1), (273, -1), (274, -1), (275, -1)] σ
  obtain ⟨told, etold⟩ : ∃ o, σ 255 1 = o := ⟨_, rfl⟩
  have ktold : zc_kd told = 256 := etold ▸ zc_g255_1 hσ zc_s255
  have potold := zc_pos ktold rfl
  have hN := Nσ
  unfold zc_N at hN
  rw [etold] at hN
  show V 0 [some (ZR 255), some (ZR 139), some (ZI place), none] [] 284 σ
  refine zr_aload_n (pc := 0) hV dX1_makeInto_0 rfl rfl ?_
  refine zr_callVi (pc := 1) hV [] (st := []) (c_X1_priceOfSum_2 (σ := σ) hσ q1 q2 Nσ) dX1_makeInto_1 mX1_140 (zc_k255 zc_s255) (zc_pos zc_s255 rfl) (by decide) (Nat.le_of_ble_eq_true rfl) (Nat.le_refl _) (fun r1 σ1 hr1 pσ1 => ?_)
  obtain ⟨hσ1, hfσ1, pσ1, wσ1, Nσ1⟩ := pσ1
  have hFσ1 := zc_Fc hfσ1 rfl hFσ
  refine zr_bipush (pc := 4) hV (-4) dX1_makeInto_4 (by decide) ?_
  refine zr_icmp_ne (pc := 6) hV 12 dX1_makeInto_6 (by decide) (by omega) ⟨by decide, by decide⟩ (fun c1 => ?_) (fun c1 => ?_)
  · show V 12 [some (ZR 255), some (ZR 139), some (ZI place), none] [] 284 σ1
    refine zr_aload_n (pc := 12) hV dX1_makeInto_12 rfl rfl ?_
    refine zr_callVv (pc := 13) hV [] (st := []) (c_X1_chooseRegisters_2 (σ := σ1) hσ1 Nσ1) dX1_makeInto_13 mX1_143 (zc_k255 zc_s255) (zc_pos zc_s255 rfl) (by decide) (Nat.le_of_ble_eq_true rfl) (Nat.le_refl _) (fun σ13 pσ13 => ?_)
    obtain ⟨hσ13, hfσ13, pσ13, wσ13, Nσ13⟩ := pσ13
    have hFσ13 := zc_Fc hfσ13 rfl hFσ1
    have t2 := zc_g255_4 hσ1 zc_s255
    have t3 : σ1 255 4 = σ 255 4 := hfσ1 _ _ (zc_out_at zc_s255 rfl)
    refine zr_aload_n (pc := 16) hV dX1_makeInto_16 rfl rfl ?_
    refine zr_iconst (pc := 17) hV 0 dX1_makeInto_17 rfl ?_
    refine zr_putI (pc := 18) hV 9 dX1_makeInto_18 fX1_146 rfl rfl rfl (zc_k255 zc_s255) (zc_pos zc_s255 rfl) (fun σ18 eσ18 => ?_)
    have hσ18 : zc_T σ18 := zc_u255_9 eσ18 hσ13 zc_s255 (by omega)
    have hFσ18 := zc_Fw eσ18 zc_s255 rfl hFσ13
    have Nσ18 : zc_N σ18 := zc_N_fr (zc_Fw eσ18 zc_s255 rfl (zc_Fr_rf [(255, 9)] _)) rfl hσ13 Nσ13
    have w13 := wσ13
    unfold zq_hid at w13
    rw [hfσ1 255 1 (zc_out_at zc_s255 rfl), hfσ1 255 4 (zc_out_at zc_s255 rfl), etold] at w13
    have ps1 : zp_PS σ σ1 told (σ told 5) := by have z := wσ1.2; rw [etold] at z; exact z
    have mi0 : zq_hid (zm_MI σ σ18 0) := zm_MI_0 (by rw [eσ18, zq_up_same]) (fun D hD hq i i0 i1 => by have hH := zm_H_of hfσ1 hσ ktold etold ps1 hD hq; refine ⟨?_, ?_⟩; (rw [eσ18, zq_up_ne (by omega)]; have z := w13 D hH i i0 i1; rw [hD.2.2.2.1.2.1] at z; exact z); (rw [eσ18, zq_up_ne (by omega), hfσ13 273 i (zc_out_ar zc_s273 rfl)]; exact hH.2.1 i i0 i1))
    refine zr_iconst (pc := 21) hV 0 dX1_makeInto_21 rfl ?_
    refine zr_istore_n (pc := 22) hV [some (ZR 255), some (ZR 139), some (ZI place), some (ZI 0)] dX1_makeInto_22 rfl (by decide) rfl rfl ?_
    have L23 : ∀ (fuel : Nat) (x3_23 : Int) (σ_23 : zq_S), (0 ≤ x3_23 ∧ x3_23 ≤ 39) → (zc_T σ_23) → (zc_Fr [(139, -1), (255, 9), (272, -1), (273, -1), (274, -1), (275, -1)] σ σ_23) → (zc_N σ_23) → (zq_hid (zm_MI σ σ_23 x3_23)) → (x3_23 ≤ σ told 5) → (zq_hid (∀ i, σ_23 139 i = σ 139 i)) → 39 - x3_23 < (fuel : Int) → V 23 [some (ZR 255), some (ZR 139), some (ZI place), some (ZI x3_23)] [] 284 σ_23 := by
      intro fuel
      induction fuel with
      | zero =>
        intro x3_23 σ_23 hx3_23 hσ_23 hFσ_23 Nσ_23 hi23_0 hi23_1 hi23_2 hm23
        exfalso; omega
      | succ fuel ih =>
        intro x3_23 σ_23 hx3_23 hσ_23 hFσ_23 Nσ_23 hi23_0 hi23_1 hi23_2 hm23
        have ih23 := ih
        show V 23 [some (ZR 255), some (ZR 139), some (ZI place), some (ZI x3_23)] [] 284 σ_23
        refine zr_iload_n (pc := 23) hV dX1_makeInto_23 rfl rfl ?_
        refine zr_aload_n (pc := 24) hV dX1_makeInto_24 rfl rfl ?_
        have t4 : σ_23 255 1 = σ 255 1 := hFσ_23 _ _ (zc_out_at zc_s255 rfl)
        refine zr_getR (pc := 25) hV 1 told dX1_makeInto_25 fX1_12 rfl rfl (zc_k255 zc_s255) (zc_pos zc_s255 rfl) (by omega) (zc_pos ktold rfl).1 ?_
        refine zr_getI (pc := 28) hV 5 dX1_makeInto_28 fX1_63 rfl rfl (zc_k256 ktold) (zc_pos ktold rfl) ?_
        have t5 := zc_g256_5 hσ_23 ktold
        have t6 : σ_23 told 5 = σ told 5 := hFσ_23 _ _ (zc_out_at ktold rfl)
        refine zr_icmp_ge (pc := 31) hV 61 dX1_makeInto_31 (by decide) (by omega) (by omega) (fun c7 => ?_) (fun c7 => ?_)
        · show V 61 [some (ZR 255), some (ZR 139), some (ZI place), some (ZI x3_23)] [] 284 σ_23
          refine zr_iload_n (pc := 61) hV dX1_makeInto_61 rfl rfl ?_
          refine zr_aload_n (pc := 62) hV dX1_makeInto_62 rfl rfl ?_
          refine zr_getI (pc := 63) hV 9 dX1_makeInto_63 fX1_146 rfl rfl (zc_k255 zc_s255) (zc_pos zc_s255 rfl) ?_
          have t8 := zc_g255_9 hσ_23 zc_s255
          refine zr_iadd (pc := 66) hV dX1_makeInto_66 ?_
          refine zr_bipush (pc := 67) hV 64 dX1_makeInto_67 (by decide) ?_
          refine zr_icmp_le (pc := 69) hV 75 dX1_makeInto_69 (by decide) (by omega) ⟨by decide, by decide⟩ (fun c9 => ?_) (fun c9 => ?_)
          · show V 75 [some (ZR 255), some (ZR 139), some (ZI place), some (ZI x3_23)] [] 284 σ_23
            refine zr_aload_n (pc := 75) hV dX1_makeInto_75 rfl rfl ?_
            refine zr_getR (pc := 76) hV 8 275 dX1_makeInto_76 fX1_31 rfl rfl (zc_k255 zc_s255) (zc_pos zc_s255 rfl) (zc_g255_8 hσ_23 zc_s255) (by decide) ?_
            refine zr_iconst (pc := 79) hV 0 dX1_makeInto_79 rfl ?_
            refine zr_aload_n (pc := 80) hV dX1_makeInto_80 rfl rfl ?_
            refine zr_iload_n (pc := 81) hV dX1_makeInto_81 rfl rfl ?_
            refine zr_aload_n (pc := 82) hV dX1_makeInto_82 rfl rfl ?_
            refine zr_getI (pc := 83) hV 9 dX1_makeInto_83 fX1_146 rfl rfl (zc_k255 zc_s255) (zc_pos zc_s255 rfl) ?_
            have t10 := zc_g255_9 hσ_23 zc_s255
            refine zr_copy (pc := 86) hV dX1_makeInto_86 lX1_152 lcp_nat lcp_stat lcp_ini (zc_k275 zc_s275) (zc_k139 zc_s139) (zc_pos zc_s275 rfl) (zc_pos zc_s139 rfl) rfl rfl (by omega) (by omega) (by omega) rfl rfl (fun σ86 eσ86 => ?_)
            have hσ86 : zc_T σ86 := zc_Tcell eσ86 hσ_23 zc_s139 (fun i => by split; exact zc_ga275 hσ_23 zc_s275 _; exact zc_ga139 hσ_23 zc_s139 _)
            have hFσ86 := zc_Fcell eσ86 zc_s139 rfl hFσ_23
            have Nσ86 : zc_N σ86 := zc_N_fr (zc_Fcell eσ86 zc_s139 rfl (zc_Fr_rf [(139, -1)] _)) rfl hσ_23 Nσ_23
            refine zr_aload_n (pc := 89) hV dX1_makeInto_89 rfl rfl ?_
            refine zr_getI (pc := 90) hV 9 dX1_makeInto_90 fX1_146 rfl rfl (zc_k255 zc_s255) (zc_pos zc_s255 rfl) ?_
            have t11 := zc_g255_9 hσ86 zc_s255
            have t12 : σ86 255 9 = σ_23 255 9 := by rw [eσ86]; exact zc_cell_ne (zc_dk zc_s255 zc_s139 rfl)
            exact zr_iret (pc := 93) hV dX1_makeInto_93 rfl rfl ⟨_, rfl, (by omega), hσ86, hFσ86, trivial, (show zm_AR σ σ86 place (σ86 255 9) from (by rw [show σ86 255 9 = σ_23 255 9 by omega]; exact zm_AR_y (by omega) wσ1.1 (by omega) (by rw [etold, show σ told 5 = x3_23 by omega]; exact hi23_0) (by omega) (fun i i0 i1 => by rw [eσ86, zq_cell_s]; show (if place ≤ i ∧ i < place + σ_23 255 9 then σ_23 275 (0 + (i - place)) else σ_23 139 i) = _; rw [hi23_2 i, show (0 : Int) + (i - place) = i - place by omega]))), Nσ86⟩
          · show V 72 [some (ZR 255), some (ZR 139), some (ZI place), some (ZI x3_23)] [] 284 σ_23
            refine zr_bipush (pc := 72) hV (-3) dX1_makeInto_72 (by decide) ?_
            exact zr_iret (pc := 74) hV dX1_makeInto_74 rfl rfl ⟨_, rfl, ⟨by decide, by decide⟩, hσ_23, hFσ_23, trivial, (show zm_AR σ σ_23 place ((-3) : Int) from (zm_AR_fl (π := σ_23) (by omega) wσ1.1 (by omega) (by rw [etold, show σ told 5 = x3_23 by omega]; exact hi23_0) (by omega) hi23_2)), Nσ_23⟩
        · show V 34 [some (ZR 255), some (ZR 139), some (ZI place), some (ZI x3_23)] [] 284 σ_23
          refine zr_aload_n (pc := 34) hV dX1_makeInto_34 rfl rfl ?_
          refine zr_getR (pc := 35) hV 7 274 dX1_makeInto_35 fX1_28 rfl rfl (zc_k255 zc_s255) (zc_pos zc_s255 rfl) (zc_g255_7 hσ_23 zc_s255) (by decide) ?_
          refine zr_iload_n (pc := 38) hV dX1_makeInto_38 rfl rfl ?_
          refine zr_iald (pc := 39) hV dX1_makeInto_39 (zc_k274 zc_s274) (zc_pos zc_s274 rfl) rfl (by omega) ?_
          have t13 := zc_ga274 hσ_23 zc_s274 x3_23
          refine zr_iconst (pc := 40) hV (-1) dX1_makeInto_40 rfl ?_
          refine zr_icmp_eq (pc := 41) hV 55 dX1_makeInto_41 (by decide) (by omega) ⟨by decide, by decide⟩ (fun c14 => ?_) (fun c14 => ?_)
          · show V 55 [some (ZR 255), some (ZR 139), some (ZI place), some (ZI x3_23)] [] 284 σ_23
            refine zr_iinc (pc := 55) hV [some (ZR 255), some (ZR 139), some (ZI place), some (ZI (x3_23 + 1))] (x3_23 + 1) dX1_makeInto_55 rfl rfl (by decide) rfl rfl ?_
            refine zr_goto (pc := 58) hV 23 dX1_makeInto_58 (by decide) ?_
            exact ih23 (x3_23 + 1) σ_23 (by omega) hσ_23 hFσ_23 Nσ_23 (zm_MI_n (by omega) (by rw [etold]; omega) (by omega) hi23_0) (by omega) hi23_2 (by omega)
          · show V 44 [some (ZR 255), some (ZR 139), some (ZI place), some (ZI x3_23)] [] 284 σ_23
            have e33 : σ_23 3 3 = σ 3 3 := hFσ_23 3 3 (zc_out_at zc_s3 rfl)
            have e31 : σ_23 3 1 = σ 3 1 := hFσ_23 3 1 (zc_out_at zc_s3 rfl)
            have hz3 := zc_g3_3 hσ zc_s3
            have tk23 : zq_hid (∀ o, 0 ≤ o → o < σ_23 3 3 → σ_23 (σ_23 10 o) 11 ≤ 1000) := fun o o0 o1 => by rw [e33] at o1; have ka := zc_ga10 hσ zc_s10 o o0 (by omega); rw [hFσ_23 10 o (zc_out_ar zc_s10 rfl), hFσ_23 (σ 10 o) 11 (zc_out_at ka rfl)]; exact (q1 o o0 o1).2.1
            refine zr_aload_n (pc := 44) hV dX1_makeInto_44 rfl rfl ?_
            refine zr_iload_n (pc := 45) hV dX1_makeInto_45 rfl rfl ?_
            have t15 := zc_g3_3 hσ_23 zc_s3
            have t16 : σ_23 3 3 = σ 3 3 := hFσ_23 _ _ (zc_out_at zc_s3 rfl)
            refine zr_callVi (pc := 46) hV [ZI x3_23] (st := []) (c_X1_emit_2 (σ := σ_23) hσ_23 x3_23 (by omega) tk23) dX1_makeInto_46 mX1_149 (zc_k255 zc_s255) (zc_pos zc_s255 rfl) (by decide) (Nat.le_of_ble_eq_true rfl) (Nat.le_refl _) (fun r46 σ46 hr46 pσ46 => ?_)
            obtain ⟨hσ46, hfσ46, pσ46, wσ46⟩ := pσ46
            have hFσ46 := zc_Fc hfσ46 rfl hFσ_23
            have Nσ46 : zc_N σ46 := zc_N_fr hfσ46 rfl hσ_23 Nσ_23
            have t17 := zc_g255_9 hσ_23 zc_s255
            have t18 := zc_g3_1 hσ_23 zc_s3
            have t19 : σ_23 3 1 = σ 3 1 := hFσ_23 _ _ (zc_out_at zc_s3 rfl)
            have t20 := zc_g3_3 hσ_23 zc_s3
            have t21 : σ_23 3 3 = σ 3 3 := hFσ_23 _ _ (zc_out_at zc_s3 rfl)
            have w46 := wσ46
            unfold zq_hid at w46
            rw [hFσ_23 255 1 (zc_out_at zc_s255 rfl), e33, e31] at w46
            obtain ⟨oo, ho46, hr46b, hy46⟩ := w46
            have kt0 : zc_kd (σ 255 1) = 256 := by rw [etold]; exact ktold
            have ho47 : zq_hid ((σ_23 (σ 255 1 + 1) x3_23 = 1 → zp_LM σ oo (σ 3 3)) ∧ (σ_23 (σ 255 1 + 1) x3_23 ≠ 1 → oo = σ_23 273 x3_23)) := ⟨fun q D hD => (ho46.1 q).1 D (zp_T_frM hFσ_23 hσ hD), ho46.2⟩
            refine zr_if_ne (pc := 49) hV 55 dX1_makeInto_49 (by decide) (by omega) (fun c22 => ?_) (fun c22 => ?_)
            · show V 55 [some (ZR 255), some (ZR 139), some (ZI place), some (ZI x3_23)] [] 284 σ46
              refine zr_iinc (pc := 55) hV [some (ZR 255), some (ZR 139), some (ZI place), some (ZI (x3_23 + 1))] (x3_23 + 1) dX1_makeInto_55 rfl rfl (by decide) rfl rfl ?_
              refine zr_goto (pc := 58) hV 23 dX1_makeInto_58 (by decide) ?_
              exact ih23 (x3_23 + 1) σ46 (by omega) hσ46 hFσ46 Nσ46 (by have b := hr46b.mp (by omega); have ka := zc_ga10 hσ zc_s10 oo b.1 (by omega); have y := hy46 (by omega); rw [hFσ_23 10 oo (zc_out_ar zc_s10 rfl)] at y; exact zm_MI_y (o := oo) (by omega) (by rw [etold]; omega) (by omega) (fun i => hFσ_23 (σ 255 1 + 1) i (zc_out_ar (zc_p256_1 kt0) rfl)) (fun i => hFσ_23 (σ 255 1 + 2) i (zc_out_ar (zc_p256_2 kt0) rfl)) (fun i => hFσ_23 (σ 255 1 + 3) i (zc_out_ar (zc_p256_3 kt0) rfl)) (fun i => hFσ_23 (σ 255 1 + 4) i (zc_out_ar (zc_p256_4 kt0) rfl)) ho47 (hFσ_23 (σ 10 oo) 14 (zc_out_at ka rfl)) (hFσ_23 (σ 10 oo) 2 (zc_out_at ka rfl)) (fun f => hFσ_23 (σ 10 oo + 1) f (zc_out_ar (zc_p4_1 ka) rfl)) b.2.2.1 y.1 y.2.1 y.2.2 (fun i => hfσ46 274 i (zc_out_ar zc_s274 rfl)) (fun i => hfσ46 273 i (zc_out_ar zc_s273 rfl)) hi23_0) (by omega) (fun i => (hfσ46 139 i (zc_out_ar zc_s139 rfl)).trans (hi23_2 i)) (by omega)
            · show V 52 [some (ZR 255), some (ZR 139), some (ZI place), some (ZI x3_23)] [] 284 σ46
              refine zr_bipush (pc := 52) hV (-3) dX1_makeInto_52 (by decide) ?_
              exact zr_iret (pc := 54) hV dX1_makeInto_54 rfl rfl ⟨_, rfl, ⟨by decide, by decide⟩, hσ46, hFσ46, trivial, (show zm_AR σ σ46 place ((-3) : Int) from (zm_AR_f (by omega) wσ1.1 (by omega) (fun D hD q z => zm_MI_f (by omega) (by rw [etold]; omega) (by omega) (fun i => hFσ_23 (σ 255 1 + 1) i (zc_out_ar (zc_p256_1 kt0) rfl)) ho47 (fun q => absurd (hr46b.mpr q) (by omega)) hi23_0 D hD q z.1) (fun i => (hfσ46 139 i (zc_out_ar zc_s139 rfl)).trans (hi23_2 i)))), Nσ46⟩
    exact L23 (39 - (0 : Int) + 1 : Int).toNat 0 σ18 (by omega) hσ18 hFσ18 Nσ18 mi0 (by omega) (fun i => by rw [eσ18, zq_up_ne (by omega), hfσ13 139 i (zc_out_ar zc_s139 rfl), hfσ1 139 i (zc_out_ar zc_s139 rfl)]) (by omega)
  · show V 9 [some (ZR 255), some (ZR 139), some (ZI place), none] [] 284 σ1
    refine zr_bipush (pc := 9) hV (-4) dX1_makeInto_9 (by decide) ?_
    exact zr_iret (pc := 11) hV dX1_makeInto_11 rfl rfl ⟨_, rfl, ⟨by decide, by decide⟩, hσ1, hFσ1, trivial, (show zm_AR σ σ1 place ((-4) : Int) from (zm_AR_n (by omega) wσ1.1 (by omega) (fun i => hfσ1 139 i (zc_out_ar zc_s139 rfl)))), Nσ1⟩
set_option maxHeartbeats 800000 in
theorem c_X11_make_2 {σ : zq_S} (hσ : zc_T σ) (place : Int) (q0 : zq_in place) (q1 : zp_P2 σ) (q2 : zq_hid (σ 255 3 = 1 → zp_SD σ (σ 255 1))) (Uσ : zc_U σ) : zq_C zc_w yX11_make cX11_make 2 (some .int) 7 158 284 284 [ZR 0, ZI place] σ (zq_pi (fun r τ => zc_T τ ∧ zc_Fr [(139, -1), (255, 9), (272, -1), (273, -1), (274, -1), (275, -1)] σ τ ∧ (True) ∧ zq_hid (∀ D, zm_HV σ D → zm_res D place r (σ 139) (τ 139)) ∧ zc_U τ)) := by
  refine zq_C_of (by decide) (Nat.le_refl _) (Nat.le_of_ble_eq_true rfl) [some (ZR 0), some (ZI place)] rfl (fun V hV => ?_)
  have hFσ := zc_Fr_rf [(139, -1), (255, 9), (272, -1), (273, -1), (274, -1), (275, -1)] σ
  show V 0 [some (ZR 0), some (ZI place)] [] 284 σ
  refine zr_iload_n (pc := 0) hV dX11_make_0 rfl rfl ?_
  refine zr_callSp (pc := 1) hV [ZI place] (st := []) (c_X11_isPlace (σ := σ) place (by omega)) dX11_make_1 mX11_173 (by decide) (Nat.le_of_ble_eq_true rfl) (Nat.le_refl _) (fun r1 hr1 pr1 => ?_)
  refine zr_if_ne (pc := 4) hV 9 dX11_make_4 (by decide) (by omega) (fun c1 => ?_) (fun c1 => ?_)
  · show V 9 [some (ZR 0), some (ZI place)] [] 284 σ
    refine zr_aload_n (pc := 9) hV dX11_make_9 rfl rfl ?_
    refine zr_getR (pc := 10) hV 6 255 dX11_make_10 fX11_57 rfl rfl (zc_k0 zc_s0) (zc_pos zc_s0 rfl) (zc_g0_6 hσ zc_s0) (by decide) ?_
    refine zr_getI (pc := 13) hV 3 dX11_make_13 fX11_240 rfl rfl (zc_k255 zc_s255) (zc_pos zc_s255 rfl) ?_
    have t2 := zc_g255_3 hσ zc_s255
    refine zr_if_eq (pc := 16) hV 34 dX11_make_16 (by decide) (by omega) (fun c3 => ?_) (fun c3 => ?_)
    · show V 34 [some (ZR 0), some (ZI place)] [] 284 σ
      refine zr_bipush (pc := 34) hV (-2) dX11_make_34 (by decide) ?_
      show V 36 [some (ZR 0), some (ZI place)] [ZI (-2)] 284 σ
      exact zr_iret (pc := 36) hV dX11_make_36 rfl rfl ⟨_, rfl, ⟨by decide, by decide⟩, hσ, hFσ, trivial, (show ∀ D, zm_HV σ D → zm_res D place ((-2) : Int) (σ 139) (σ 139) from (fun D hD => zm_res_n (by omega) (by have z := hD.1; omega) rfl (fun _ => rfl))), Uσ⟩
    · show V 19 [some (ZR 0), some (ZI place)] [] 284 σ
      refine zr_aload_n (pc := 19) hV dX11_make_19 rfl rfl ?_
      refine zr_getR (pc := 20) hV 6 255 dX11_make_20 fX11_57 rfl rfl (zc_k0 zc_s0) (zc_pos zc_s0 rfl) (zc_g0_6 hσ zc_s0) (by decide) ?_
      refine zr_aload_n (pc := 23) hV dX11_make_23 rfl rfl ?_
      refine zr_getR (pc := 24) hV 4 139 dX11_make_24 fX11_39 rfl rfl (zc_k0 zc_s0) (zc_pos zc_s0 rfl) (zc_g0_4 hσ zc_s0) (by decide) ?_
      refine zr_iload_n (pc := 27) hV dX11_make_27 rfl rfl ?_
      have Nσ : zc_N σ := Uσ.2 (by omega)
      refine zr_callVi (pc := 28) hV [ZR 139, ZI place] (st := []) (c_X1_makeInto_2 (σ := σ) hσ place (by omega) q1 (q2 (by omega)) Nσ) dX11_make_28 mX11_247 (zc_k255 zc_s255) (zc_pos zc_s255 rfl) (by decide) (Nat.le_of_ble_eq_true rfl) (Nat.le_refl _) (fun r28 σ28 hr28 pσ28 => ?_)
      obtain ⟨hσ28, hfσ28, pσ28, wσ28, Nσ28⟩ := pσ28
      have hFσ28 := zc_Fc hfσ28 rfl hFσ
      have Uσ28 : zc_U σ28 := zc_U_fr hfσ28 rfl hσ Uσ
      refine zr_goto (pc := 31) hV 36 dX11_make_31 (by decide) ?_
      show V 36 [some (ZR 0), some (ZI place)] [ZI r28] 284 σ28
      exact zr_iret (pc := 36) hV dX11_make_36 rfl rfl ⟨_, rfl, (by omega), hσ28, hFσ28, trivial, (show ∀ D, zm_HV σ D → zm_res D place r28 (σ 139) (σ28 139) from (fun D hD => wσ28 D (hD.2 (by have z := hD.1; omega)))), Uσ28⟩
  · show V 7 [some (ZR 0), some (ZI place)] [] 284 σ
    refine zr_iconst (pc := 7) hV (-1) dX11_make_7 rfl ?_
    exact zr_iret (pc := 8) hV dX11_make_8 rfl rfl ⟨_, rfl, ⟨by decide, by decide⟩, hσ, hFσ, trivial, (show ∀ D, zm_HV σ D → zm_res D place ((-1) : Int) (σ 139) (σ 139) from (fun D hD => zm_res_b (by omega) rfl (fun _ => rfl))), Uσ⟩
