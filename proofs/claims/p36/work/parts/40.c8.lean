set_option maxHeartbeats 800000 in
theorem c_X7_root {σ : zq_S} (hσ : zc_T σ) (this : Int) (kthis : zc_kd this = 256)  : zq_C zc_w yX7_root cX7_root 1 (some .int) 0 0 284 284 [ZR this] σ (zq_pp σ (fun r => ((-1) ≤ r ∧ r ≤ 38) ∧ r = σ this 5 - 1)) := by
  refine zq_C_of (by decide) (Nat.le_refl _) (Nat.le_of_ble_eq_true rfl) [some (ZR this)] rfl (fun V hV => ?_)
  have pothis := zc_pos kthis rfl
  show V 0 [some (ZR this)] [] 284 σ
  refine zr_aload_n (pc := 0) hV dX7_root_0 rfl rfl ?_
  refine zr_getI (pc := 1) hV 5 dX7_root_1 fX7_31 rfl rfl (zc_k256 kthis) (zc_pos kthis rfl) ?_
  have t1 := zc_g256_5 hσ kthis
  refine zr_iconst (pc := 4) hV 1 dX7_root_4 rfl ?_
  refine zr_isub (pc := 5) hV dX7_root_5 ?_
  exact zr_iret (pc := 6) hV dX7_root_6 rfl rfl ⟨rfl, _, rfl, (by omega), (by omega)⟩
set_option maxHeartbeats 800000 in
theorem c_X7_isVariable {σ : zq_S} (hσ : zc_T σ) (this : Int) (kthis : zc_kd this = 256) (node : Int) (q0 : 0 ≤ node ∧ node ≤ 38) : zq_C zc_w yX7_isVariable cX7_isVariable 2 (some .boolean) 0 0 284 284 [ZR this, ZI node] σ (zq_pp σ (fun r => (0 ≤ r ∧ r ≤ 1))) := by
  refine zq_C_of (by decide) (Nat.le_refl _) (Nat.le_of_ble_eq_true rfl) [some (ZR this), some (ZI node)] rfl (fun V hV => ?_)
  have pothis := zc_pos kthis rfl
  show V 0 [some (ZR this), some (ZI node)] [] 284 σ
  refine zr_aload_n (pc := 0) hV dX7_isVariable_0 rfl rfl ?_
  refine zr_getR (pc := 1) hV 0 (this + 1) dX7_isVariable_1 fX7_9 rfl rfl (zc_k256 kthis) (zc_pos kthis rfl) (zc_g256_0 hσ kthis) (zc_pos (zc_p256_1 kthis) rfl).1 ?_
  refine zr_iload_n (pc := 4) hV dX7_isVariable_4 rfl rfl ?_
  refine zr_iald (pc := 5) hV dX7_isVariable_5 (zc_k257 (zc_p256_1 kthis)) (zc_pos (zc_p256_1 kthis) rfl) rfl (by omega) ?_
  have t1 := zc_ga257 hσ (zc_p256_1 kthis) node
  refine zr_iconst (pc := 6) hV 1 dX7_isVariable_6 rfl ?_
  refine zr_icmp_ne (pc := 7) hV 14 dX7_isVariable_7 (by decide) (by omega) ⟨by decide, by decide⟩ (fun c2 => ?_) (fun c2 => ?_)
  · show V 14 [some (ZR this), some (ZI node)] [] 284 σ
    refine zr_iconst (pc := 14) hV 0 dX7_isVariable_14 rfl ?_
    show V 15 [some (ZR this), some (ZI node)] [ZI 0] 284 σ
    exact zr_zret (pc := 15) hV dX7_isVariable_15 rfl rfl (by omega) ⟨rfl, _, rfl, ⟨by decide, by decide⟩, (by omega)⟩
  · show V 10 [some (ZR this), some (ZI node)] [] 284 σ
    refine zr_iconst (pc := 10) hV 1 dX7_isVariable_10 rfl ?_
    refine zr_goto (pc := 11) hV 15 dX7_isVariable_11 (by decide) ?_
    show V 15 [some (ZR this), some (ZI node)] [ZI 1] 284 σ
    exact zr_zret (pc := 15) hV dX7_isVariable_15 rfl rfl (by omega) ⟨rfl, _, rfl, ⟨by decide, by decide⟩, (by omega)⟩
set_option maxHeartbeats 800000 in
theorem c_X7_isLiteral {σ : zq_S} (hσ : zc_T σ) (this : Int) (kthis : zc_kd this = 256) (node : Int) (q0 : 0 ≤ node ∧ node ≤ 38) : zq_C zc_w yX7_isLiteral cX7_isLiteral 2 (some .boolean) 0 0 284 284 [ZR this, ZI node] σ (zq_pp σ (fun r => (0 ≤ r ∧ r ≤ 1))) := by
  refine zq_C_of (by decide) (Nat.le_refl _) (Nat.le_of_ble_eq_true rfl) [some (ZR this), some (ZI node)] rfl (fun V hV => ?_)
  have pothis := zc_pos kthis rfl
  show V 0 [some (ZR this), some (ZI node)] [] 284 σ
  refine zr_aload_n (pc := 0) hV dX7_isLiteral_0 rfl rfl ?_
  refine zr_getR (pc := 1) hV 0 (this + 1) dX7_isLiteral_1 fX7_9 rfl rfl (zc_k256 kthis) (zc_pos kthis rfl) (zc_g256_0 hσ kthis) (zc_pos (zc_p256_1 kthis) rfl).1 ?_
  refine zr_iload_n (pc := 4) hV dX7_isLiteral_4 rfl rfl ?_
  refine zr_iald (pc := 5) hV dX7_isLiteral_5 (zc_k257 (zc_p256_1 kthis)) (zc_pos (zc_p256_1 kthis) rfl) rfl (by omega) ?_
  have t1 := zc_ga257 hσ (zc_p256_1 kthis) node
  refine zr_iconst (pc := 6) hV 2 dX7_isLiteral_6 rfl ?_
  refine zr_icmp_ne (pc := 7) hV 14 dX7_isLiteral_7 (by decide) (by omega) ⟨by decide, by decide⟩ (fun c2 => ?_) (fun c2 => ?_)
  · show V 14 [some (ZR this), some (ZI node)] [] 284 σ
    refine zr_iconst (pc := 14) hV 0 dX7_isLiteral_14 rfl ?_
    show V 15 [some (ZR this), some (ZI node)] [ZI 0] 284 σ
    exact zr_zret (pc := 15) hV dX7_isLiteral_15 rfl rfl (by omega) ⟨rfl, _, rfl, ⟨by decide, by decide⟩, (by omega)⟩
  · show V 10 [some (ZR this), some (ZI node)] [] 284 σ
    refine zr_iconst (pc := 10) hV 1 dX7_isLiteral_10 rfl ?_
    refine zr_goto (pc := 11) hV 15 dX7_isLiteral_11 (by decide) ?_
    show V 15 [some (ZR this), some (ZI node)] [ZI 1] 284 σ
    exact zr_zret (pc := 15) hV dX7_isLiteral_15 rfl rfl (by omega) ⟨rfl, _, rfl, ⟨by decide, by decide⟩, (by omega)⟩
set_option maxHeartbeats 800000 in
theorem c_X7_worth {σ : zq_S} (hσ : zc_T σ) (this : Int) (kthis : zc_kd this = 256) (wordMask : Int) (q0 : 0 ≤ wordMask ∧ wordMask ≤ 255) : zq_C zc_w yX7_worth cX7_worth 4 (some .int) 1 23 284 284 [ZR this, ZR 142, ZI wordMask] σ (zq_pi (fun r τ => zc_T τ ∧ zc_Fr [(261, -1)] σ τ ∧ (True))) := by
  refine zq_C_of (by decide) (Nat.le_refl _) (Nat.le_of_ble_eq_true rfl) [some (ZR this), some (ZR 142), some (ZI wordMask), none] rfl (fun V hV => ?_)
  have pothis := zc_pos kthis rfl
  have hFσ := zc_Fr_rf [(261, -1)] σ
  show V 0 [some (ZR this), some (ZR 142), some (ZI wordMask), none] [] 284 σ
  refine zr_iconst (pc := 0) hV 0 dX7_worth_0 rfl ?_
  refine zr_istore_n (pc := 1) hV [some (ZR this), some (ZR 142), some (ZI wordMask), some (ZI 0)] dX7_worth_1 rfl (by decide) rfl rfl ?_
  have L2 : ∀ (fuel : Nat) (x3_2 : Int) (σ_2 : zq_S), (0 ≤ x3_2 ∧ x3_2 ≤ 39) → (zc_T σ_2) → (zc_Fr [(261, -1)] σ σ_2) → 39 - x3_2 < (fuel : Int) → V 2 [some (ZR this), some (ZR 142), some (ZI wordMask), some (ZI x3_2)] [] 284 σ_2 := by
    intro fuel
    induction fuel with
    | zero =>
      intro x3_2 σ_2 hx3_2 hσ_2 hFσ_2 hm2
      exfalso; omega
    | succ fuel ih =>
      intro x3_2 σ_2 hx3_2 hσ_2 hFσ_2 hm2
      have ih2 := ih
      show V 2 [some (ZR this), some (ZR 142), some (ZI wordMask), some (ZI x3_2)] [] 284 σ_2
      refine zr_iload_n (pc := 2) hV dX7_worth_2 rfl rfl ?_
      refine zr_aload_n (pc := 3) hV dX7_worth_3 rfl rfl ?_
      refine zr_getI (pc := 4) hV 5 dX7_worth_4 fX7_31 rfl rfl (zc_k256 kthis) (zc_pos kthis rfl) ?_
      have t1 := zc_g256_5 hσ_2 kthis
      have t2 : σ_2 this 5 = σ this 5 := hFσ_2 _ _ (zc_out_at kthis rfl)
      refine zr_icmp_ge (pc := 7) hV 105 dX7_worth_7 (by decide) (by omega) (by omega) (fun c3 => ?_) (fun c3 => ?_)
      · show V 105 [some (ZR this), some (ZR 142), some (ZI wordMask), some (ZI x3_2)] [] 284 σ_2
        refine zr_aload_n (pc := 105) hV dX7_worth_105 rfl rfl ?_
        refine zr_getI (pc := 106) hV 5 dX7_worth_106 fX7_31 rfl rfl (zc_k256 kthis) (zc_pos kthis rfl) ?_
        have t4 := zc_g256_5 hσ_2 kthis
        have t5 : σ_2 this 5 = σ this 5 := hFσ_2 _ _ (zc_out_at kthis rfl)
        refine zr_if_le (pc := 109) hV 124 dX7_worth_109 (by decide) (by omega) (fun c6 => ?_) (fun c6 => ?_)
        · show V 124 [some (ZR this), some (ZR 142), some (ZI wordMask), some (ZI x3_2)] [] 284 σ_2
          refine zr_iconst (pc := 124) hV 0 dX7_worth_124 rfl ?_
          show V 125 [some (ZR this), some (ZR 142), some (ZI wordMask), some (ZI x3_2)] [ZI 0] 284 σ_2
          exact zr_iret (pc := 125) hV dX7_worth_125 rfl rfl ⟨_, rfl, ⟨by decide, by decide⟩, hσ_2, hFσ_2, trivial⟩
        · show V 112 [some (ZR this), some (ZR 142), some (ZI wordMask), some (ZI x3_2)] [] 284 σ_2
          refine zr_aload_n (pc := 112) hV dX7_worth_112 rfl rfl ?_
          refine zr_getR (pc := 113) hV 4 (this + 5) dX7_worth_113 fX7_22 rfl rfl (zc_k256 kthis) (zc_pos kthis rfl) (zc_g256_4 hσ_2 kthis) (zc_pos (zc_p256_5 kthis) rfl).1 ?_
          refine zr_aload_n (pc := 116) hV dX7_worth_116 rfl rfl ?_
          refine zr_callVp (pc := 117) hV [] (st := [ZR (this + 5)]) (c_X7_root (σ := σ_2) hσ_2 this kthis) dX7_worth_117 mX7_95 (zc_k256 kthis) (zc_pos kthis rfl) (by decide) (Nat.le_of_ble_eq_true rfl) (Nat.le_refl _) (fun r117 hr117 pr117 => ?_)
          have t7 := zc_g256_5 hσ_2 kthis
          have t8 : σ_2 this 5 = σ this 5 := hFσ_2 _ _ (zc_out_at kthis rfl)
          refine zr_iald (pc := 120) hV dX7_worth_120 (zc_k261 (zc_p256_5 kthis)) (zc_pos (zc_p256_5 kthis) rfl) rfl (by omega) ?_
          have t9 := zc_ga261 hσ_2 (zc_p256_5 kthis) r117
          refine zr_goto (pc := 121) hV 125 dX7_worth_121 (by decide) ?_
          show V 125 [some (ZR this), some (ZR 142), some (ZI wordMask), some (ZI x3_2)] [ZI (σ_2 (this + 5) r117)] 284 σ_2
          exact zr_iret (pc := 125) hV dX7_worth_125 rfl rfl ⟨_, rfl, (by omega), hσ_2, hFσ_2, trivial⟩
      · show V 10 [some (ZR this), some (ZR 142), some (ZI wordMask), some (ZI x3_2)] [] 284 σ_2
        refine zr_aload_n (pc := 10) hV dX7_worth_10 rfl rfl ?_
        refine zr_iload_n (pc := 11) hV dX7_worth_11 rfl rfl ?_
        refine zr_callVp (pc := 12) hV [ZI x3_2] (st := []) (c_X7_isVariable (σ := σ_2) hσ_2 this kthis x3_2 (by omega)) dX7_worth_12 mX7_84 (zc_k256 kthis) (zc_pos kthis rfl) (by decide) (Nat.le_of_ble_eq_true rfl) (Nat.le_refl _) (fun r12 hr12 pr12 => ?_)
        refine zr_if_eq (pc := 15) hV 38 dX7_worth_15 (by decide) (by omega) (fun c10 => ?_) (fun c10 => ?_)
        · show V 38 [some (ZR this), some (ZR 142), some (ZI wordMask), some (ZI x3_2)] [] 284 σ_2
          refine zr_aload_n (pc := 38) hV dX7_worth_38 rfl rfl ?_
          refine zr_iload_n (pc := 39) hV dX7_worth_39 rfl rfl ?_
          refine zr_callVp (pc := 40) hV [ZI x3_2] (st := []) (c_X7_isLiteral (σ := σ_2) hσ_2 this kthis x3_2 (by omega)) dX7_worth_40 mX7_87 (zc_k256 kthis) (zc_pos kthis rfl) (by decide) (Nat.le_of_ble_eq_true rfl) (Nat.le_refl _) (fun r40 hr40 pr40 => ?_)
          refine zr_if_eq (pc := 43) hV 61 dX7_worth_43 (by decide) (by omega) (fun c11 => ?_) (fun c11 => ?_)
          · show V 61 [some (ZR this), some (ZR 142), some (ZI wordMask), some (ZI x3_2)] [] 284 σ_2
            refine zr_aload_n (pc := 61) hV dX7_worth_61 rfl rfl ?_
            refine zr_getR (pc := 62) hV 4 (this + 5) dX7_worth_62 fX7_22 rfl rfl (zc_k256 kthis) (zc_pos kthis rfl) (zc_g256_4 hσ_2 kthis) (zc_pos (zc_p256_5 kthis) rfl).1 ?_
            refine zr_iload_n (pc := 65) hV dX7_worth_65 rfl rfl ?_
            refine zr_aload_n (pc := 66) hV dX7_worth_66 rfl rfl ?_
            refine zr_getR (pc := 67) hV 0 (this + 1) dX7_worth_67 fX7_9 rfl rfl (zc_k256 kthis) (zc_pos kthis rfl) (zc_g256_0 hσ_2 kthis) (zc_pos (zc_p256_1 kthis) rfl).1 ?_
            refine zr_iload_n (pc := 70) hV dX7_worth_70 rfl rfl ?_
            refine zr_iald (pc := 71) hV dX7_worth_71 (zc_k257 (zc_p256_1 kthis)) (zc_pos (zc_p256_1 kthis) rfl) rfl (by omega) ?_
            have t12 := zc_ga257 hσ_2 (zc_p256_1 kthis) x3_2
            have t13 : σ_2 (this + 1) x3_2 = σ (this + 1) x3_2 := hFσ_2 _ _ (zc_out_ar (zc_p256_1 kthis) rfl)
            refine zr_aload_n (pc := 72) hV dX7_worth_72 rfl rfl ?_
            refine zr_getR (pc := 73) hV 4 (this + 5) dX7_worth_73 fX7_22 rfl rfl (zc_k256 kthis) (zc_pos kthis rfl) (zc_g256_4 hσ_2 kthis) (zc_pos (zc_p256_5 kthis) rfl).1 ?_
            refine zr_aload_n (pc := 76) hV dX7_worth_76 rfl rfl ?_
            refine zr_getR (pc := 77) hV 2 (this + 3) dX7_worth_77 fX7_16 rfl rfl (zc_k256 kthis) (zc_pos kthis rfl) (zc_g256_2 hσ_2 kthis) (zc_pos (zc_p256_3 kthis) rfl).1 ?_
            refine zr_iload_n (pc := 80) hV dX7_worth_80 rfl rfl ?_
            refine zr_iald (pc := 81) hV dX7_worth_81 (zc_k259 (zc_p256_3 kthis)) (zc_pos (zc_p256_3 kthis) rfl) rfl (by omega) ?_
            have t14 := zc_ga259 hσ_2 (zc_p256_3 kthis) x3_2
            have t15 : σ_2 (this + 3) x3_2 = σ (this + 3) x3_2 := hFσ_2 _ _ (zc_out_ar (zc_p256_3 kthis) rfl)
            refine zr_iald (pc := 82) hV dX7_worth_82 (zc_k261 (zc_p256_5 kthis)) (zc_pos (zc_p256_5 kthis) rfl) rfl (by omega) ?_
            have t16 := zc_ga261 hσ_2 (zc_p256_5 kthis) (σ_2 (this + 3) x3_2)
            refine zr_aload_n (pc := 83) hV dX7_worth_83 rfl rfl ?_
            refine zr_getR (pc := 84) hV 4 (this + 5) dX7_worth_84 fX7_22 rfl rfl (zc_k256 kthis) (zc_pos kthis rfl) (zc_g256_4 hσ_2 kthis) (zc_pos (zc_p256_5 kthis) rfl).1 ?_
            refine zr_aload_n (pc := 87) hV dX7_worth_87 rfl rfl ?_
            refine zr_getR (pc := 88) hV 3 (this + 4) dX7_worth_88 fX7_19 rfl rfl (zc_k256 kthis) (zc_pos kthis rfl) (zc_g256_3 hσ_2 kthis) (zc_pos (zc_p256_4 kthis) rfl).1 ?_
            refine zr_iload_n (pc := 91) hV dX7_worth_91 rfl rfl ?_
            refine zr_iald (pc := 92) hV dX7_worth_92 (zc_k260 (zc_p256_4 kthis)) (zc_pos (zc_p256_4 kthis) rfl) rfl (by omega) ?_
            have t17 := zc_ga260 hσ_2 (zc_p256_4 kthis) x3_2
            have t18 : σ_2 (this + 4) x3_2 = σ (this + 4) x3_2 := hFσ_2 _ _ (zc_out_ar (zc_p256_4 kthis) rfl)
            refine zr_iald (pc := 93) hV dX7_worth_93 (zc_k261 (zc_p256_5 kthis)) (zc_pos (zc_p256_5 kthis) rfl) rfl (by omega) ?_
            have t19 := zc_ga261 hσ_2 (zc_p256_5 kthis) (σ_2 (this + 4) x3_2)
            refine zr_iload_n (pc := 94) hV dX7_worth_94 rfl rfl ?_
            refine zr_callSp (pc := 95) hV [ZI (σ_2 (this + 1) x3_2), ZI (σ_2 (this + 5) (σ_2 (this + 3) x3_2)), ZI (σ_2 (this + 5) (σ_2 (this + 4) x3_2)), ZI wordMask] (st := [ZI x3_2, ZR (this + 5)]) (c_X3_combine (σ := σ_2) (σ_2 (this + 1) x3_2) (σ_2 (this + 5) (σ_2 (this + 3) x3_2)) (σ_2 (this + 5) (σ_2 (this + 4) x3_2)) wordMask (by omega) (by omega) (by omega) (by omega)) dX7_worth_95 mX7_90 (by decide) (Nat.le_of_ble_eq_true rfl) (Nat.le_refl _) (fun r95 hr95 pr95 => ?_)
            refine zr_iast (pc := 98) hV dX7_worth_98 (zc_k261 (zc_p256_5 kthis)) (zc_pos (zc_p256_5 kthis) rfl) rfl (by omega) (fun σ98 eσ98 => ?_)
            have hσ98 : zc_T σ98 := zc_ua261 eσ98 hσ_2 (zc_p256_5 kthis) (by omega)
            have hFσ98 := zc_Fa eσ98 (zc_p256_5 kthis) rfl hFσ_2
            show V 99 [some (ZR this), some (ZR 142), some (ZI wordMask), some (ZI x3_2)] [] 284 σ98
            refine zr_iinc (pc := 99) hV [some (ZR this), some (ZR 142), some (ZI wordMask), some (ZI (x3_2 + 1))] (x3_2 + 1) dX7_worth_99 rfl rfl (by decide) rfl rfl ?_
            refine zr_goto (pc := 102) hV 2 dX7_worth_102 (by decide) ?_
            exact ih2 (x3_2 + 1) σ98 (by omega) hσ98 hFσ98 (by omega)
          · show V 46 [some (ZR this), some (ZR 142), some (ZI wordMask), some (ZI x3_2)] [] 284 σ_2
            refine zr_aload_n (pc := 46) hV dX7_worth_46 rfl rfl ?_
            refine zr_getR (pc := 47) hV 4 (this + 5) dX7_worth_47 fX7_22 rfl rfl (zc_k256 kthis) (zc_pos kthis rfl) (zc_g256_4 hσ_2 kthis) (zc_pos (zc_p256_5 kthis) rfl).1 ?_
            refine zr_iload_n (pc := 50) hV dX7_worth_50 rfl rfl ?_
            refine zr_aload_n (pc := 51) hV dX7_worth_51 rfl rfl ?_
            refine zr_getR (pc := 52) hV 1 (this + 2) dX7_worth_52 fX7_13 rfl rfl (zc_k256 kthis) (zc_pos kthis rfl) (zc_g256_1 hσ_2 kthis) (zc_pos (zc_p256_2 kthis) rfl).1 ?_
            refine zr_iload_n (pc := 55) hV dX7_worth_55 rfl rfl ?_
            refine zr_iald (pc := 56) hV dX7_worth_56 (zc_k258 (zc_p256_2 kthis)) (zc_pos (zc_p256_2 kthis) rfl) rfl (by omega) ?_
            have t20 := zc_ga258 hσ_2 (zc_p256_2 kthis) x3_2
            have t21 : σ_2 (this + 2) x3_2 = σ (this + 2) x3_2 := hFσ_2 _ _ (zc_out_ar (zc_p256_2 kthis) rfl)
            refine zr_iast (pc := 57) hV dX7_worth_57 (zc_k261 (zc_p256_5 kthis)) (zc_pos (zc_p256_5 kthis) rfl) rfl (by omega) (fun σ57 eσ57 => ?_)
            have hσ57 : zc_T σ57 := zc_ua261 eσ57 hσ_2 (zc_p256_5 kthis) (by omega)
            have hFσ57 := zc_Fa eσ57 (zc_p256_5 kthis) rfl hFσ_2
            refine zr_goto (pc := 58) hV 99 dX7_worth_58 (by decide) ?_
            show V 99 [some (ZR this), some (ZR 142), some (ZI wordMask), some (ZI x3_2)] [] 284 σ57
            refine zr_iinc (pc := 99) hV [some (ZR this), some (ZR 142), some (ZI wordMask), some (ZI (x3_2 + 1))] (x3_2 + 1) dX7_worth_99 rfl rfl (by decide) rfl rfl ?_
            refine zr_goto (pc := 102) hV 2 dX7_worth_102 (by decide) ?_
            exact ih2 (x3_2 + 1) σ57 (by omega) hσ57 hFσ57 (by omega)
        · show V 18 [some (ZR this), some (ZR 142), some (ZI wordMask), some (ZI x3_2)] [] 284 σ_2
          refine zr_aload_n (pc := 18) hV dX7_worth_18 rfl rfl ?_
          refine zr_getR (pc := 19) hV 4 (this + 5) dX7_worth_19 fX7_22 rfl rfl (zc_k256 kthis) (zc_pos kthis rfl) (zc_g256_4 hσ_2 kthis) (zc_pos (zc_p256_5 kthis) rfl).1 ?_
          refine zr_iload_n (pc := 22) hV dX7_worth_22 rfl rfl ?_
          refine zr_aload_n (pc := 23) hV dX7_worth_23 rfl rfl ?_
          refine zr_aload_n (pc := 24) hV dX7_worth_24 rfl rfl ?_
          refine zr_getR (pc := 25) hV 1 (this + 2) dX7_worth_25 fX7_13 rfl rfl (zc_k256 kthis) (zc_pos kthis rfl) (zc_g256_1 hσ_2 kthis) (zc_pos (zc_p256_2 kthis) rfl).1 ?_
          refine zr_iload_n (pc := 28) hV dX7_worth_28 rfl rfl ?_
          refine zr_iald (pc := 29) hV dX7_worth_29 (zc_k258 (zc_p256_2 kthis)) (zc_pos (zc_p256_2 kthis) rfl) rfl (by omega) ?_
          have t22 := zc_ga258 hσ_2 (zc_p256_2 kthis) x3_2
          have t23 : σ_2 (this + 2) x3_2 = σ (this + 2) x3_2 := hFσ_2 _ _ (zc_out_ar (zc_p256_2 kthis) rfl)
          refine zr_bipush (pc := 30) hV 7 dX7_worth_30 (by decide) ?_
          refine zr_iand (pc := 32) hV dX7_worth_32 ?_
          have t24 := zq_and_mask (σ_2 (this + 2) x3_2) 3 7 8 (by decide) (by decide) (by decide)
          refine zr_iald (pc := 33) hV dX7_worth_33 (zc_k142 zc_s142) (zc_pos zc_s142 rfl) rfl (by omega) ?_
          have t25 := zc_ga142 hσ_2 zc_s142 (zq_and (σ_2 (this + 2) x3_2) 7)
          have t26 : σ_2 142 (zq_and (σ_2 (this + 2) x3_2) 7) = σ 142 (zq_and (σ_2 (this + 2) x3_2) 7) := hFσ_2 _ _ (zc_out_ar zc_s142 rfl)
          refine zr_iast (pc := 34) hV dX7_worth_34 (zc_k261 (zc_p256_5 kthis)) (zc_pos (zc_p256_5 kthis) rfl) rfl (by omega) (fun σ34 eσ34 => ?_)
          have hσ34 : zc_T σ34 := zc_ua261 eσ34 hσ_2 (zc_p256_5 kthis) (by omega)
          have hFσ34 := zc_Fa eσ34 (zc_p256_5 kthis) rfl hFσ_2
          refine zr_goto (pc := 35) hV 99 dX7_worth_35 (by decide) ?_
          show V 99 [some (ZR this), some (ZR 142), some (ZI wordMask), some (ZI x3_2)] [] 284 σ34
          refine zr_iinc (pc := 99) hV [some (ZR this), some (ZR 142), some (ZI wordMask), some (ZI (x3_2 + 1))] (x3_2 + 1) dX7_worth_99 rfl rfl (by decide) rfl rfl ?_
          refine zr_goto (pc := 102) hV 2 dX7_worth_102 (by decide) ?_
          exact ih2 (x3_2 + 1) σ34 (by omega) hσ34 hFσ34 (by omega)
  exact L2 (39 - (0 : Int) + 1 : Int).toNat 0 σ (by omega) hσ hFσ (by omega)

