set_option maxHeartbeats 800000 in
theorem c_X7_worth_2 {σ : zq_S} (hσ : zc_T σ) (this : Int) (kthis : zc_kd this = 256) (wordMask : Int) (q0 : 0 ≤ wordMask ∧ wordMask ≤ 255) (q1 : zq_hid (zv_pc σ this)) : zq_C zc_w yX7_worth cX7_worth 4 (some .int) 1 23 284 284 [ZR this, ZR 142, ZI wordMask] σ (zq_pi (fun r τ => zc_T τ ∧ zc_Fr [(261, -1)] σ τ ∧ (True) ∧ zq_hid (zv_o (zv_ce σ this wordMask) (σ this 5) (τ (this + 5)) ∧ (0 < σ this 5 → r = τ (this + 5) (σ this 5 - 1))))) := by
  refine zq_C_of (by decide) (Nat.le_refl _) (Nat.le_of_ble_eq_true rfl) [some (ZR this), some (ZR 142), some (ZI wordMask), none] rfl (fun V hV => ?_)
  have pothis := zc_pos kthis rfl
  have hFσ := zc_Fr_rf [(261, -1)] σ
  have z5 := zc_g256_5 hσ kthis
  show V 0 [some (ZR this), some (ZR 142), some (ZI wordMask), none] [] 284 σ
  refine zr_iconst (pc := 0) hV 0 dX7_worth_0 rfl ?_
  refine zr_istore_n (pc := 1) hV [some (ZR this), some (ZR 142), some (ZI wordMask), some (ZI 0)] dX7_worth_1 rfl (by decide) rfl rfl ?_
  have L2 : ∀ (fuel : Nat) (x3_2 : Int) (σ_2 : zq_S), (0 ≤ x3_2 ∧ x3_2 ≤ 39) → (zc_T σ_2) → (zc_Fr [(261, -1)] σ σ_2) → (zq_hid (zv_o (zv_ce σ this wordMask) x3_2 (σ_2 (this + 5)))) → (x3_2 ≤ σ this 5) → 39 - x3_2 < (fuel : Int) → V 2 [some (ZR this), some (ZR 142), some (ZI wordMask), some (ZI x3_2)] [] 284 σ_2 := by
    intro fuel
    induction fuel with
    | zero =>
      intro x3_2 σ_2 hx3_2 hσ_2 hFσ_2 hi2_0 hi2_1 hm2
      exfalso; omega
    | succ fuel ih =>
      intro x3_2 σ_2 hx3_2 hσ_2 hFσ_2 hi2_0 hi2_1 hm2
      have ih2 := ih
      show V 2 [some (ZR this), some (ZR 142), some (ZI wordMask), some (ZI x3_2)] [] 284 σ_2
      refine zr_iload_n (pc := 2) hV dX7_worth_2 rfl rfl ?_
      refine zr_aload_n (pc := 3) hV dX7_worth_3 rfl rfl ?_
      refine zr_getI (pc := 4) hV 5 dX7_worth_4 fX7_31 rfl rfl (zc_k256 kthis) (zc_pos kthis rfl) ?_
      have t1 := zc_g256_5 hσ_2 kthis
      have t2 : σ_2 this 5 = σ this 5 := hFσ_2 _ _ (zc_out_at kthis rfl)
      refine zr_icmp_ge (pc := 7) hV 105 dX7_worth_7 (by decide) (by omega) (by omega) (fun c3 => ?_) (fun c3 => ?_)
      · show V 105 [some (ZR this), some (ZR 142), some (ZI wordMask), some (ZI x3_2)] [] 284 σ_2
        refine zr_aload_n (pc := 105) hV dX7_worth_105 rfl rfl ?_
        refine zr_getI (pc := 106) hV 5 dX7_worth_106 fX7_31 rfl rfl (zc_k256 kthis) (zc_pos kthis rfl) ?_
        have t4 := zc_g256_5 hσ_2 kthis
        have t5 : σ_2 this 5 = σ this 5 := hFσ_2 _ _ (zc_out_at kthis rfl)
        refine zr_if_le (pc := 109) hV 124 dX7_worth_109 (by decide) (by omega) (fun c6 => ?_) (fun c6 => ?_)
        · show V 124 [some (ZR this), some (ZR 142), some (ZI wordMask), some (ZI x3_2)] [] 284 σ_2
          refine zr_iconst (pc := 124) hV 0 dX7_worth_124 rfl ?_
          show V 125 [some (ZR this), some (ZR 142), some (ZI wordMask), some (ZI x3_2)] [ZI 0] 284 σ_2
          exact zr_iret (pc := 125) hV dX7_worth_125 rfl rfl ⟨_, rfl, ⟨by decide, by decide⟩, hσ_2, hFσ_2, trivial, (show zv_o (zv_ce σ this wordMask) (σ this 5) (σ_2 (this + 5)) ∧ (0 < σ this 5 → (0 : Int) = σ_2 (this + 5) (σ this 5 - 1)) from ⟨by have h := hi2_0; unfold zq_hid at h; rw [show σ this 5 = x3_2 by omega]; exact h, fun h => by exfalso; omega⟩)⟩
        · show V 112 [some (ZR this), some (ZR 142), some (ZI wordMask), some (ZI x3_2)] [] 284 σ_2
          refine zr_aload_n (pc := 112) hV dX7_worth_112 rfl rfl ?_
          refine zr_getR (pc := 113) hV 4 (this + 5) dX7_worth_113 fX7_22 rfl rfl (zc_k256 kthis) (zc_pos kthis rfl) (zc_g256_4 hσ_2 kthis) (zc_pos (zc_p256_5 kthis) rfl).1 ?_
          refine zr_aload_n (pc := 116) hV dX7_worth_116 rfl rfl ?_
          refine zr_callVp (pc := 117) hV [] (st := [ZR (this + 5)]) (c_X7_root (σ := σ_2) hσ_2 this kthis) dX7_worth_117 mX7_95 (zc_k256 kthis) (zc_pos kthis rfl) (by decide) (Nat.le_of_ble_eq_true rfl) (Nat.le_refl _) (fun r117 hr117 pr117 => ?_)
          have t7 := zc_g256_5 hσ_2 kthis
          have t8 : σ_2 this 5 = σ this 5 := hFσ_2 _ _ (zc_out_at kthis rfl)
          refine zr_iald (pc := 120) hV dX7_worth_120 (zc_k261 (zc_p256_5 kthis)) (zc_pos (zc_p256_5 kthis) rfl) rfl (by omega) ?_
          have t9 := zc_ga261 hσ_2 (zc_p256_5 kthis) r117
          refine zr_goto (pc := 121) hV 125 dX7_worth_121 (by decide) ?_
          show V 125 [some (ZR this), some (ZR 142), some (ZI wordMask), some (ZI x3_2)] [ZI (σ_2 (this + 5) r117)] 284 σ_2
          exact zr_iret (pc := 125) hV dX7_worth_125 rfl rfl ⟨_, rfl, (by omega), hσ_2, hFσ_2, trivial, (show zv_o (zv_ce σ this wordMask) (σ this 5) (σ_2 (this + 5)) ∧ (0 < σ this 5 → (σ_2 (this + 5) r117) = σ_2 (this + 5) (σ this 5 - 1)) from ⟨by have h := hi2_0; unfold zq_hid at h; rw [show σ this 5 = x3_2 by omega]; exact h, fun _ => by rw [show r117 = σ this 5 - 1 by omega]⟩)⟩
      · show V 10 [some (ZR this), some (ZR 142), some (ZI wordMask), some (ZI x3_2)] [] 284 σ_2
        refine zr_aload_n (pc := 10) hV dX7_worth_10 rfl rfl ?_
        refine zr_iload_n (pc := 11) hV dX7_worth_11 rfl rfl ?_
        refine zr_callVp (pc := 12) hV [ZI x3_2] (st := []) (c_X7_isVariable_2 (σ := σ_2) hσ_2 this kthis x3_2 (by omega)) dX7_worth_12 mX7_84 (zc_k256 kthis) (zc_pos kthis rfl) (by decide) (Nat.le_of_ble_eq_true rfl) (Nat.le_refl _) (fun r12 hr12 pr12 => ?_)
        refine zr_if_eq (pc := 15) hV 38 dX7_worth_15 (by decide) (by omega) (fun c10 => ?_) (fun c10 => ?_)
        · show V 38 [some (ZR this), some (ZR 142), some (ZI wordMask), some (ZI x3_2)] [] 284 σ_2
          refine zr_aload_n (pc := 38) hV dX7_worth_38 rfl rfl ?_
          refine zr_iload_n (pc := 39) hV dX7_worth_39 rfl rfl ?_
          refine zr_callVp (pc := 40) hV [ZI x3_2] (st := []) (c_X7_isLiteral_2 (σ := σ_2) hσ_2 this kthis x3_2 (by omega)) dX7_worth_40 mX7_87 (zc_k256 kthis) (zc_pos kthis rfl) (by decide) (Nat.le_of_ble_eq_true rfl) (Nat.le_refl _) (fun r40 hr40 pr40 => ?_)
          refine zr_if_eq (pc := 43) hV 61 dX7_worth_43 (by decide) (by omega) (fun c11 => ?_) (fun c11 => ?_)
          · show V 61 [some (ZR this), some (ZR 142), some (ZI wordMask), some (ZI x3_2)] [] 284 σ_2
            refine zr_aload_n (pc := 61) hV dX7_worth_61 rfl rfl ?_
            refine zr_getR (pc := 62) hV 4 (this + 5) dX7_worth_62 fX7_22 rfl rfl (zc_k256 kthis) (zc_pos kthis rfl) (zc_g256_4 hσ_2 kthis) (zc_pos (zc_p256_5 kthis) rfl).1 ?_
            refine zr_iload_n (pc := 65) hV dX7_worth_65 rfl rfl ?_
            refine zr_aload_n (pc := 66) hV dX7_worth_66 rfl rfl ?_
            refine zr_getR (pc := 67) hV 0 (this + 1) dX7_worth_67 fX7_9 rfl rfl (zc_k256 kthis) (zc_pos kthis rfl) (zc_g256_0 hσ_2 kthis) (zc_pos (zc_p256_1 kthis) rfl).1 ?_
            refine zr_iload_n (pc := 70) hV dX7_worth_70 rfl rfl ?_
            refine zr_iald (pc := 71) hV dX7_worth_71 (zc_k257 (zc_p256_1 kthis)) (zc_pos (zc_p256_1 kthis) rfl) rfl (by omega) ?_
            have t12 := zc_ga257 hσ_2 (zc_p256_1 kthis) x3_2
            have t13 : σ_2 (this + 1) x3_2 = σ (this + 1) x3_2 := hFσ_2 _ _ (zc_out_ar (zc_p256_1 kthis) rfl)
            refine zr_aload_n (pc := 72) hV dX7_worth_72 rfl rfl ?_
            refine zr_getR (pc := 73) hV 4 (this + 5) dX7_worth_73 fX7_22 rfl rfl (zc_k256 kthis) (zc_pos kthis rfl) (zc_g256_4 hσ_2 kthis) (zc_pos (zc_p256_5 kthis) rfl).1 ?_
            refine zr_aload_n (pc := 76) hV dX7_worth_76 rfl rfl ?_
            refine zr_getR (pc := 77) hV 2 (this + 3) dX7_worth_77 fX7_16 rfl rfl (zc_k256 kthis) (zc_pos kthis rfl) (zc_g256_2 hσ_2 kthis) (zc_pos (zc_p256_3 kthis) rfl).1 ?_
            refine zr_iload_n (pc := 80) hV dX7_worth_80 rfl rfl ?_
            refine zr_iald (pc := 81) hV dX7_worth_81 (zc_k259 (zc_p256_3 kthis)) (zc_pos (zc_p256_3 kthis) rfl) rfl (by omega) ?_
            have t14 := zc_ga259 hσ_2 (zc_p256_3 kthis) x3_2
            have t15 : σ_2 (this + 3) x3_2 = σ (this + 3) x3_2 := hFσ_2 _ _ (zc_out_ar (zc_p256_3 kthis) rfl)
            refine zr_iald (pc := 82) hV dX7_worth_82 (zc_k261 (zc_p256_5 kthis)) (zc_pos (zc_p256_5 kthis) rfl) rfl (by omega) ?_
            have t16 := zc_ga261 hσ_2 (zc_p256_5 kthis) (σ_2 (this + 3) x3_2)
            refine zr_aload_n (pc := 83) hV dX7_worth_83 rfl rfl ?_
            refine zr_getR (pc := 84) hV 4 (this + 5) dX7_worth_84 fX7_22 rfl rfl (zc_k256 kthis) (zc_pos kthis rfl) (zc_g256_4 hσ_2 kthis) (zc_pos (zc_p256_5 kthis) rfl).1 ?_
            refine zr_aload_n (pc := 87) hV dX7_worth_87 rfl rfl ?_
            refine zr_getR (pc := 88) hV 3 (this + 4) dX7_worth_88 fX7_19 rfl rfl (zc_k256 kthis) (zc_pos kthis rfl) (zc_g256_3 hσ_2 kthis) (zc_pos (zc_p256_4 kthis) rfl).1 ?_
            refine zr_iload_n (pc := 91) hV dX7_worth_91 rfl rfl ?_
            refine zr_iald (pc := 92) hV dX7_worth_92 (zc_k260 (zc_p256_4 kthis)) (zc_pos (zc_p256_4 kthis) rfl) rfl (by omega) ?_
            have t17 := zc_ga260 hσ_2 (zc_p256_4 kthis) x3_2
            have t18 : σ_2 (this + 4) x3_2 = σ (this + 4) x3_2 := hFσ_2 _ _ (zc_out_ar (zc_p256_4 kthis) rfl)
            refine zr_iald (pc := 93) hV dX7_worth_93 (zc_k261 (zc_p256_5 kthis)) (zc_pos (zc_p256_5 kthis) rfl) rfl (by omega) ?_
            have t19 := zc_ga261 hσ_2 (zc_p256_5 kthis) (σ_2 (this + 4) x3_2)
            refine zr_iload_n (pc := 94) hV dX7_worth_94 rfl rfl ?_
            have f1 : σ_2 (this + 1) x3_2 = σ (this + 1) x3_2 := hFσ_2 (this + 1) _ (zc_out_ar (zc_p256_1 kthis) rfl)
            have f3 : σ_2 (this + 3) x3_2 = σ (this + 3) x3_2 := hFσ_2 (this + 3) _ (zc_out_ar (zc_p256_3 kthis) rfl)
            have f4 : σ_2 (this + 4) x3_2 = σ (this + 4) x3_2 := hFσ_2 (this + 4) _ (zc_out_ar (zc_p256_4 kthis) rfl)
            have ch := (q1.2 x3_2 (by omega) (by omega)).2 (by omega) (by omega)
            have w1 := (hi2_0 (σ_2 (this + 3) x3_2) (by omega) (by omega)).2
            have w2 := (hi2_0 (σ_2 (this + 4) x3_2) (by omega) (by omega)).2
            refine zr_callSp (pc := 95) hV [ZI (σ_2 (this + 1) x3_2), ZI (σ_2 (this + 5) (σ_2 (this + 3) x3_2)), ZI (σ_2 (this + 5) (σ_2 (this + 4) x3_2)), ZI wordMask] (st := [ZI x3_2, ZR (this + 5)]) (c_X3_combine_2 (σ := σ_2) (σ_2 (this + 1) x3_2) (σ_2 (this + 5) (σ_2 (this + 3) x3_2)) (σ_2 (this + 5) (σ_2 (this + 4) x3_2)) wordMask (by omega) (by omega) (by omega) (by omega)) dX7_worth_95 mX7_90 (by decide) (Nat.le_of_ble_eq_true rfl) (Nat.le_refl _) (fun r95 hr95 pr95 => ?_)
            refine zr_iast (pc := 98) hV dX7_worth_98 (zc_k261 (zc_p256_5 kthis)) (zc_pos (zc_p256_5 kthis) rfl) rfl (by omega) (fun σ98 eσ98 => ?_)
            have hσ98 : zc_T σ98 := zc_ua261 eσ98 hσ_2 (zc_p256_5 kthis) (by omega)
            have hFσ98 := zc_Fa eσ98 (zc_p256_5 kthis) rfl hFσ_2
            show V 99 [some (ZR this), some (ZR 142), some (ZI wordMask), some (ZI x3_2)] [] 284 σ98
            refine zr_iinc (pc := 99) hV [some (ZR this), some (ZR 142), some (ZI wordMask), some (ZI (x3_2 + 1))] (x3_2 + 1) dX7_worth_99 rfl rfl (by decide) rfl rfl ?_
            refine zr_goto (pc := 102) hV 2 dX7_worth_102 (by decide) ?_
            exact ih2 (x3_2 + 1) σ98 (by omega) hσ98 hFσ98 (zv_o_s (zv_lo_c q1) hi2_0 (by omega) (by omega) (v := σ98 (this + 5) x3_2) (by rw [eσ98, zq_up_same]; unfold zv_ce; first | (rw [if_pos (by omega), hFσ_2 142 _ (zc_out_ar zc_s142 rfl), show σ_2 (this + 2) x3_2 = σ (this + 2) x3_2 from hFσ_2 (this + 2) _ (zc_out_ar (zc_p256_2 kthis) rfl)]) | (rw [if_neg (by omega), if_pos (by omega), show σ_2 (this + 2) x3_2 = σ (this + 2) x3_2 from hFσ_2 (this + 2) _ (zc_out_ar (zc_p256_2 kthis) rfl)]) | (rw [if_neg (by omega), if_neg (by omega)]; unfold zv_cm; rw [show σ (this + 1) x3_2 = σ_2 (this + 1) x3_2 from (hFσ_2 (this + 1) _ (zc_out_ar (zc_p256_1 kthis) rfl)).symm, show σ (this + 3) x3_2 = σ_2 (this + 3) x3_2 from (hFσ_2 (this + 3) _ (zc_out_ar (zc_p256_3 kthis) rfl)).symm, show σ (this + 4) x3_2 = σ_2 (this + 4) x3_2 from (hFσ_2 (this + 4) _ (zc_out_ar (zc_p256_4 kthis) rfl)).symm, ← pr95.2])) (by rw [eσ98, zq_up_same]; omega) (fun j => by rw [eσ98]; by_cases hc : j = x3_2; (rw [if_pos hc, hc, zq_up_same]); (rw [if_neg hc, zq_up_ne (by omega)]))) (by omega) (by omega)
          · show V 46 [some (ZR this), some (ZR 142), some (ZI wordMask), some (ZI x3_2)] [] 284 σ_2
            refine zr_aload_n (pc := 46) hV dX7_worth_46 rfl rfl ?_
            refine zr_getR (pc := 47) hV 4 (this + 5) dX7_worth_47 fX7_22 rfl rfl (zc_k256 kthis) (zc_pos kthis rfl) (zc_g256_4 hσ_2 kthis) (zc_pos (zc_p256_5 kthis) rfl).1 ?_
            refine zr_iload_n (pc := 50) hV dX7_worth_50 rfl rfl ?_
            refine zr_aload_n (pc := 51) hV dX7_worth_51 rfl rfl ?_
            refine zr_getR (pc := 52) hV 1 (this + 2) dX7_worth_52 fX7_13 rfl rfl (zc_k256 kthis) (zc_pos kthis rfl) (zc_g256_1 hσ_2 kthis) (zc_pos (zc_p256_2 kthis) rfl).1 ?_
            refine zr_iload_n (pc := 55) hV dX7_worth_55 rfl rfl ?_
            refine zr_iald (pc := 56) hV dX7_worth_56 (zc_k258 (zc_p256_2 kthis)) (zc_pos (zc_p256_2 kthis) rfl) rfl (by omega) ?_
            have t20 := zc_ga258 hσ_2 (zc_p256_2 kthis) x3_2
            have t21 : σ_2 (this + 2) x3_2 = σ (this + 2) x3_2 := hFσ_2 _ _ (zc_out_ar (zc_p256_2 kthis) rfl)
            have f1 : σ_2 (this + 1) x3_2 = σ (this + 1) x3_2 := hFσ_2 (this + 1) _ (zc_out_ar (zc_p256_1 kthis) rfl)
            have f2 : σ_2 (this + 2) x3_2 = σ (this + 2) x3_2 := hFσ_2 (this + 2) _ (zc_out_ar (zc_p256_2 kthis) rfl)
            have w1 := (q1.2 x3_2 (by omega) (by omega)).1 (by omega)
            refine zr_iast (pc := 57) hV dX7_worth_57 (zc_k261 (zc_p256_5 kthis)) (zc_pos (zc_p256_5 kthis) rfl) rfl (by omega) (fun σ57 eσ57 => ?_)
            have hσ57 : zc_T σ57 := zc_ua261 eσ57 hσ_2 (zc_p256_5 kthis) (by omega)
            have hFσ57 := zc_Fa eσ57 (zc_p256_5 kthis) rfl hFσ_2
            refine zr_goto (pc := 58) hV 99 dX7_worth_58 (by decide) ?_
            show V 99 [some (ZR this), some (ZR 142), some (ZI wordMask), some (ZI x3_2)] [] 284 σ57
            refine zr_iinc (pc := 99) hV [some (ZR this), some (ZR 142), some (ZI wordMask), some (ZI (x3_2 + 1))] (x3_2 + 1) dX7_worth_99 rfl rfl (by decide) rfl rfl ?_
            refine zr_goto (pc := 102) hV 2 dX7_worth_102 (by decide) ?_
            exact ih2 (x3_2 + 1) σ57 (by omega) hσ57 hFσ57 (zv_o_s (zv_lo_c q1) hi2_0 (by omega) (by omega) (v := σ57 (this + 5) x3_2) (by rw [eσ57, zq_up_same]; unfold zv_ce; first | (rw [if_pos (by omega), hFσ_2 142 _ (zc_out_ar zc_s142 rfl), show σ_2 (this + 2) x3_2 = σ (this + 2) x3_2 from hFσ_2 (this + 2) _ (zc_out_ar (zc_p256_2 kthis) rfl)]) | (rw [if_neg (by omega), if_pos (by omega), show σ_2 (this + 2) x3_2 = σ (this + 2) x3_2 from hFσ_2 (this + 2) _ (zc_out_ar (zc_p256_2 kthis) rfl)]) | (rw [if_neg (by omega), if_neg (by omega)]; unfold zv_cm; rw [show σ (this + 1) x3_2 = σ_2 (this + 1) x3_2 from (hFσ_2 (this + 1) _ (zc_out_ar (zc_p256_1 kthis) rfl)).symm, show σ (this + 3) x3_2 = σ_2 (this + 3) x3_2 from (hFσ_2 (this + 3) _ (zc_out_ar (zc_p256_3 kthis) rfl)).symm, show σ (this + 4) x3_2 = σ_2 (this + 4) x3_2 from (hFσ_2 (this + 4) _ (zc_out_ar (zc_p256_4 kthis) rfl)).symm, ← pr95.2])) (by rw [eσ57, zq_up_same]; omega) (fun j => by rw [eσ57]; by_cases hc : j = x3_2; (rw [if_pos hc, hc, zq_up_same]); (rw [if_neg hc, zq_up_ne (by omega)]))) (by omega) (by omega)
        · show V 18 [some (ZR this), some (ZR 142), some (ZI wordMask), some (ZI x3_2)] [] 284 σ_2
          refine zr_aload_n (pc := 18) hV dX7_worth_18 rfl rfl ?_
          refine zr_getR (pc := 19) hV 4 (this + 5) dX7_worth_19 fX7_22 rfl rfl (zc_k256 kthis) (zc_pos kthis rfl) (zc_g256_4 hσ_2 kthis) (zc_pos (zc_p256_5 kthis) rfl).1 ?_
          refine zr_iload_n (pc := 22) hV dX7_worth_22 rfl rfl ?_
          refine zr_aload_n (pc := 23) hV dX7_worth_23 rfl rfl ?_
          refine zr_aload_n (pc := 24) hV dX7_worth_24 rfl rfl ?_
          refine zr_getR (pc := 25) hV 1 (this + 2) dX7_worth_25 fX7_13 rfl rfl (zc_k256 kthis) (zc_pos kthis rfl) (zc_g256_1 hσ_2 kthis) (zc_pos (zc_p256_2 kthis) rfl).1 ?_
          refine zr_iload_n (pc := 28) hV dX7_worth_28 rfl rfl ?_
          refine zr_iald (pc := 29) hV dX7_worth_29 (zc_k258 (zc_p256_2 kthis)) (zc_pos (zc_p256_2 kthis) rfl) rfl (by omega) ?_
          have t22 := zc_ga258 hσ_2 (zc_p256_2 kthis) x3_2
          have t23 : σ_2 (this + 2) x3_2 = σ (this + 2) x3_2 := hFσ_2 _ _ (zc_out_ar (zc_p256_2 kthis) rfl)
          refine zr_bipush (pc := 30) hV 7 dX7_worth_30 (by decide) ?_
          refine zr_iand (pc := 32) hV dX7_worth_32 ?_
          have t24 := zq_and_mask (σ_2 (this + 2) x3_2) 3 7 8 (by decide) (by decide) (by decide)
          refine zr_iald (pc := 33) hV dX7_worth_33 (zc_k142 zc_s142) (zc_pos zc_s142 rfl) rfl (by omega) ?_
          have t25 := zc_ga142 hσ_2 zc_s142 (zq_and (σ_2 (this + 2) x3_2) 7)
          have t26 : σ_2 142 (zq_and (σ_2 (this + 2) x3_2) 7) = σ 142 (zq_and (σ_2 (this + 2) x3_2) 7) := hFσ_2 _ _ (zc_out_ar zc_s142 rfl)
          have f1 : σ_2 (this + 1) x3_2 = σ (this + 1) x3_2 := hFσ_2 (this + 1) _ (zc_out_ar (zc_p256_1 kthis) rfl)
          have f2 : σ_2 (this + 2) x3_2 = σ (this + 2) x3_2 := hFσ_2 (this + 2) _ (zc_out_ar (zc_p256_2 kthis) rfl)
          have a7 := zq_and_mask (σ_2 (this + 2) x3_2) 3 7 8 (by decide) (by decide) (by decide)
          have w1 := q1.1 (zq_and (σ_2 (this + 2) x3_2) 7) (by omega) (by omega)
          have w2 : σ_2 142 (zq_and (σ_2 (this + 2) x3_2) 7) = σ 142 (zq_and (σ_2 (this + 2) x3_2) 7) := hFσ_2 142 _ (zc_out_ar zc_s142 rfl)
          refine zr_iast (pc := 34) hV dX7_worth_34 (zc_k261 (zc_p256_5 kthis)) (zc_pos (zc_p256_5 kthis) rfl) rfl (by omega) (fun σ34 eσ34 => ?_)
          have hσ34 : zc_T σ34 := zc_ua261 eσ34 hσ_2 (zc_p256_5 kthis) (by omega)
          have hFσ34 := zc_Fa eσ34 (zc_p256_5 kthis) rfl hFσ_2
          refine zr_goto (pc := 35) hV 99 dX7_worth_35 (by decide) ?_
          show V 99 [some (ZR this), some (ZR 142), some (ZI wordMask), some (ZI x3_2)] [] 284 σ34
          refine zr_iinc (pc := 99) hV [some (ZR this), some (ZR 142), some (ZI wordMask), some (ZI (x3_2 + 1))] (x3_2 + 1) dX7_worth_99 rfl rfl (by decide) rfl rfl ?_
          refine zr_goto (pc := 102) hV 2 dX7_worth_102 (by decide) ?_
          exact ih2 (x3_2 + 1) σ34 (by omega) hσ34 hFσ34 (zv_o_s (zv_lo_c q1) hi2_0 (by omega) (by omega) (v := σ34 (this + 5) x3_2) (by rw [eσ34, zq_up_same]; unfold zv_ce; first | (rw [if_pos (by omega), hFσ_2 142 _ (zc_out_ar zc_s142 rfl), show σ_2 (this + 2) x3_2 = σ (this + 2) x3_2 from hFσ_2 (this + 2) _ (zc_out_ar (zc_p256_2 kthis) rfl)]) | (rw [if_neg (by omega), if_pos (by omega), show σ_2 (this + 2) x3_2 = σ (this + 2) x3_2 from hFσ_2 (this + 2) _ (zc_out_ar (zc_p256_2 kthis) rfl)]) | (rw [if_neg (by omega), if_neg (by omega)]; unfold zv_cm; rw [show σ (this + 1) x3_2 = σ_2 (this + 1) x3_2 from (hFσ_2 (this + 1) _ (zc_out_ar (zc_p256_1 kthis) rfl)).symm, show σ (this + 3) x3_2 = σ_2 (this + 3) x3_2 from (hFσ_2 (this + 3) _ (zc_out_ar (zc_p256_3 kthis) rfl)).symm, show σ (this + 4) x3_2 = σ_2 (this + 4) x3_2 from (hFσ_2 (this + 4) _ (zc_out_ar (zc_p256_4 kthis) rfl)).symm, ← pr95.2])) (by rw [eσ34, zq_up_same]; omega) (fun j => by rw [eσ34]; by_cases hc : j = x3_2; (rw [if_pos hc, hc, zq_up_same]); (rw [if_neg hc, zq_up_ne (by omega)]))) (by omega) (by omega)
  exact L2 (39 - (0 : Int) + 1 : Int).toNat 0 σ (by omega) hσ hFσ zv_o_0 (by omega) (by omega)
set_option maxHeartbeats 800000 in
theorem c_X11_value_2 {σ : zq_S} (hσ : zc_T σ)  (q0 : zq_hid (σ 255 3 = 1 → zv_pc σ (σ 255 1))) (Uσ : zc_U σ) : zq_C zc_w yX11_value cX11_value 1 (some .int) 2 46 284 284 [ZR 0] σ (zq_pi (fun r τ => zc_T τ ∧ zc_Fr [(261, -1)] σ τ ∧ (True) ∧ zq_hid ((σ 255 3 ≠ 1 → r = -2) ∧ (σ 255 3 = 1 → zv_o (zv_ce σ (σ 255 1) (zx_p2 (σ 3 0) - 1)) (σ (σ 255 1) 5) (τ (σ 255 1 + 5)) ∧ (0 < σ (σ 255 1) 5 → r = τ (σ 255 1 + 5) (σ (σ 255 1) 5 - 1)))) ∧ zc_U τ)) := by
  refine zq_C_of (by decide) (Nat.le_refl _) (Nat.le_of_ble_eq_true rfl) [some (ZR 0)] rfl (fun V hV => ?_)
  have hFσ := zc_Fr_rf [(261, -1)] σ
  show V 0 [some (ZR 0)] [] 284 σ
  refine zr_aload_n (pc := 0) hV dX11_value_0 rfl rfl ?_
  refine zr_getR (pc := 1) hV 6 255 dX11_value_1 fX11_57 rfl rfl (zc_k0 zc_s0) (zc_pos zc_s0 rfl) (zc_g0_6 hσ zc_s0) (by decide) ?_
  refine zr_getI (pc := 4) hV 3 dX11_value_4 fX11_240 rfl rfl (zc_k255 zc_s255) (zc_pos zc_s255 rfl) ?_
  have t1 := zc_g255_3 hσ zc_s255
  refine zr_if_eq (pc := 7) hV 40 dX11_value_7 (by decide) (by omega) (fun c2 => ?_) (fun c2 => ?_)
  · show V 40 [some (ZR 0)] [] 284 σ
    refine zr_bipush (pc := 40) hV (-2) dX11_value_40 (by decide) ?_
    show V 42 [some (ZR 0)] [ZI (-2)] 284 σ
    exact zr_iret (pc := 42) hV dX11_value_42 rfl rfl ⟨_, rfl, ⟨by decide, by decide⟩, hσ, hFσ, trivial, (show (σ 255 3 ≠ 1 → ((-2) : Int) = -2) ∧ (σ 255 3 = 1 → zv_o (zv_ce σ (σ 255 1) (zx_p2 (σ 3 0) - 1)) (σ (σ 255 1) 5) (σ (σ 255 1 + 5)) ∧ (0 < σ (σ 255 1) 5 → ((-2) : Int) = σ (σ 255 1 + 5) (σ (σ 255 1) 5 - 1))) from ⟨fun _ => rfl, fun h => absurd h (by omega)⟩), Uσ⟩
  · show V 10 [some (ZR 0)] [] 284 σ
    refine zr_aload_n (pc := 10) hV dX11_value_10 rfl rfl ?_
    refine zr_getR (pc := 11) hV 6 255 dX11_value_11 fX11_57 rfl rfl (zc_k0 zc_s0) (zc_pos zc_s0 rfl) (zc_g0_6 hσ zc_s0) (by decide) ?_
    obtain ⟨o14, eo14⟩ : ∃ o, σ 255 1 = o := ⟨_, rfl⟩
    have ko14 : zc_kd o14 = 256 := eo14 ▸ zc_g255_1 hσ zc_s255
    have po14 := zc_pos ko14 rfl
    refine zr_getR (pc := 14) hV 1 o14 dX11_value_14 fX11_232 rfl rfl (zc_k255 zc_s255) (zc_pos zc_s255 rfl) (by omega) (zc_pos ko14 rfl).1 ?_
    refine zr_aload_n (pc := 17) hV dX11_value_17 rfl rfl ?_
    refine zr_getR (pc := 18) hV 5 140 dX11_value_18 fX11_48 rfl rfl (zc_k0 zc_s0) (zc_pos zc_s0 rfl) (zc_g0_5 hσ zc_s0) (by decide) ?_
    refine zr_getR (pc := 21) hV 2 141 dX11_value_21 fX11_179 rfl rfl (zc_k140 zc_s140) (zc_pos zc_s140 rfl) (zc_g140_2 hσ zc_s140) (by decide) ?_
    refine zr_getR (pc := 24) hV 1 142 dX11_value_24 fX11_251 rfl rfl (zc_k141 zc_s141) (zc_pos zc_s141 rfl) (zc_g141_1 hσ zc_s141) (by decide) ?_
    refine zr_aload_n (pc := 27) hV dX11_value_27 rfl rfl ?_
    refine zr_getR (pc := 28) hV 1 3 dX11_value_28 fX11_19 rfl rfl (zc_k0 zc_s0) (zc_pos zc_s0 rfl) (zc_g0_1 hσ zc_s0) (by decide) ?_
    refine zr_callVp (pc := 31) hV [] (st := [ZR 142, ZR o14]) (c_X9_wordMask_3 (σ := σ) hσ) dX11_value_31 mX11_79 (zc_k3 zc_s3) (zc_pos zc_s3 rfl) (by decide) (Nat.le_of_ble_eq_true rfl) (Nat.le_refl _) (fun r31 hr31 pr31 => ?_)
    have t3 := zc_g3_0 hσ zc_s3
    refine zr_callVi (pc := 34) hV [ZR 142, ZI r31] (st := []) (c_X7_worth_2 (σ := σ) hσ o14 ko14 r31 (by omega) (by rw [← eo14]; exact q0 (by omega))) dX11_value_34 mX11_253 (zc_k256 ko14) (zc_pos ko14 rfl) (by decide) (Nat.le_of_ble_eq_true rfl) (Nat.le_refl _) (fun r34 σ34 hr34 pσ34 => ?_)
    obtain ⟨hσ34, hfσ34, pσ34, wσ34⟩ := pσ34
    have hFσ34 := zc_Fc hfσ34 rfl hFσ
    have Uσ34 : zc_U σ34 := zc_U_fr hfσ34 rfl hσ Uσ
    have t4 := zc_g256_5 hσ ko14
    refine zr_goto (pc := 37) hV 42 dX11_value_37 (by decide) ?_
    show V 42 [some (ZR 0)] [ZI r34] 284 σ34
    exact zr_iret (pc := 42) hV dX11_value_42 rfl rfl ⟨_, rfl, (by omega), hσ34, hFσ34, trivial, (show (σ 255 3 ≠ 1 → r34 = -2) ∧ (σ 255 3 = 1 → zv_o (zv_ce σ (σ 255 1) (zx_p2 (σ 3 0) - 1)) (σ (σ 255 1) 5) (σ34 (σ 255 1 + 5)) ∧ (0 < σ (σ 255 1) 5 → r34 = σ34 (σ 255 1 + 5) (σ (σ 255 1) 5 - 1))) from ⟨fun h => absurd (by omega) h, fun _ => by have w := wσ34; unfold zq_hid at w; rw [show r31 = zx_p2 (σ 3 0) - 1 by omega, ← eo14] at w; exact w⟩), Uσ34⟩
