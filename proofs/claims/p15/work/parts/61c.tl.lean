set_option maxHeartbeats 800000 in
theorem c_X12_sharedWith2 {σ : zq_S} (hσ : zx_T σ) (o : Int) (q0 : 0 ≤ o ∧ o ≤ 20) : zq_C zx_w yX12_sharedWith cX12_sharedWith 9 (some .int) 0 0 41 41 [ZR 0, ZI o] σ (zq_pp σ (fun r => zq_hid (zt_sw σ o (σ 0 3) r))) := by
  refine zq_C_of (by decide) (Nat.le_refl _) (Nat.le_of_ble_eq_true rfl) [some (ZR 0), some (ZI o), none, none, none, none, none, none, none] rfl (fun V hV => ?_)
  have zb2 := zx_g2 hσ
  have z3 := zx_g3 hσ
  show V 0 [some (ZR 0), some (ZI o), none, none, none, none, none, none, none] [] 41 σ
  refine zr_bipush (pc := 0) hV (-4) dX12_sharedWith_0 (by decide) ?_
  refine zr_istore_n (pc := 2) hV [some (ZR 0), some (ZI o), some (ZI (-4)), none, none, none, none, none, none] dX12_sharedWith_2 rfl (by decide) rfl rfl ?_
  refine zr_iconst (pc := 3) hV 0 dX12_sharedWith_3 rfl ?_
  refine zr_istore_n (pc := 4) hV [some (ZR 0), some (ZI o), some (ZI (-4)), some (ZI 0), none, none, none, none, none] dX12_sharedWith_4 rfl (by decide) rfl rfl ?_
  have L5 : ∀ (fuel : Nat) (x2_5 : Int) (x3_5 : Int), ((-4) ≤ x2_5 ∧ x2_5 ≤ 131091) → (0 ≤ x3_5 ∧ x3_5 ≤ 20) → (zq_hid (zt_sw σ o x3_5 x2_5)) → (x3_5 ≤ σ 0 3) → 20 - x3_5 < (fuel : Int) → V 5 [some (ZR 0), some (ZI o), some (ZI x2_5), some (ZI x3_5), none, none, none, none, none] [] 41 σ := by
    intro fuel
    induction fuel with
    | zero =>
      intro x2_5 x3_5 hx2_5 hx3_5 hi5_0 hi5_1 hm5
      exfalso; omega
    | succ fuel ih =>
      intro x2_5 x3_5 hx2_5 hx3_5 hi5_0 hi5_1 hm5
      have ih5 := ih
      show V 5 [some (ZR 0), some (ZI o), some (ZI x2_5), some (ZI x3_5), none, none, none, none, none] [] 41 σ
      refine zr_iload_n (pc := 5) hV dX12_sharedWith_5 rfl rfl ?_
      refine zr_aload_n (pc := 6) hV dX12_sharedWith_6 rfl rfl ?_
      refine zr_getI (pc := 7) hV 3 dX12_sharedWith_7 fX12_150 rfl rfl rfl (by decide) ?_
      have t1 := zx_g3 hσ
      refine zr_icmp_ge (pc := 10) hV 158 dX12_sharedWith_10 (by decide) (by omega) (by omega) (fun c2 => ?_) (fun c2 => ?_)
      · show V 158 [some (ZR 0), some (ZI o), some (ZI x2_5), some (ZI x3_5), none, none, none, none, none] [] 41 σ
        refine zr_iload_n (pc := 158) hV dX12_sharedWith_158 rfl rfl ?_
        exact zr_iret (pc := 159) hV dX12_sharedWith_159 rfl rfl ⟨rfl, _, rfl, (by omega), (by have q := hi5_0; rw [show x3_5 = σ 0 3 by omega] at q; exact q)⟩
      · show V 13 [some (ZR 0), some (ZI o), some (ZI x2_5), some (ZI x3_5), none, none, none, none, none] [] 41 σ
        refine zr_iconst (pc := 13) hV 0 dX12_sharedWith_13 rfl ?_
        refine zr_istore (pc := 14) hV [some (ZR 0), some (ZI o), some (ZI x2_5), some (ZI x3_5), some (ZI 0), none, none, none, none] dX12_sharedWith_14 (by decide) rfl rfl ?_
        refine zr_iconst (pc := 16) hV 1 dX12_sharedWith_16 rfl ?_
        refine zr_istore (pc := 17) hV [some (ZR 0), some (ZI o), some (ZI x2_5), some (ZI x3_5), some (ZI 0), some (ZI 1), none, none, none] dX12_sharedWith_17 (by decide) rfl rfl ?_
        refine zr_iconst (pc := 19) hV 0 dX12_sharedWith_19 rfl ?_
        refine zr_istore (pc := 20) hV [some (ZR 0), some (ZI o), some (ZI x2_5), some (ZI x3_5), some (ZI 0), some (ZI 1), some (ZI 0), none, none] dX12_sharedWith_20 (by decide) rfl rfl ?_
        have L22 : ∀ (fuel : Nat) (x4_22 : Int) (x5_22 : Int) (x6_22 : Int), (0 ≤ x4_22 ∧ x4_22 ≤ 4095) → (0 ≤ x5_22 ∧ x5_22 ≤ 1) → (0 ≤ x6_22 ∧ x6_22 ≤ 12) → (x4_22 = zt_cb (zt_L σ x3_5) (zt_L σ o) x6_22) → (zq_hid ((x5_22 = 1 → zt_co (zt_L σ x3_5) (zt_L σ o) x6_22) ∧ (x5_22 = 0 → ¬ zt_co (zt_L σ x3_5) (zt_L σ o) x6_22))) → (x6_22 ≤ σ 0 2) → 12 - x6_22 < (fuel : Int) → V 22 [some (ZR 0), some (ZI o), some (ZI x2_5), some (ZI x3_5), some (ZI x4_22), some (ZI x5_22), some (ZI x6_22), none, none] [] 41 σ := by
          intro fuel
          induction fuel with
          | zero =>
            intro x4_22 x5_22 x6_22 hx4_22 hx5_22 hx6_22 hi22_0 hi22_1 hi22_2 hm22
            exfalso; omega
          | succ fuel ih =>
            intro x4_22 x5_22 x6_22 hx4_22 hx5_22 hx6_22 hi22_0 hi22_1 hi22_2 hm22
            have ih22 := ih
            show V 22 [some (ZR 0), some (ZI o), some (ZI x2_5), some (ZI x3_5), some (ZI x4_22), some (ZI x5_22), some (ZI x6_22), none, none] [] 41 σ
            refine zr_iload (pc := 22) hV dX12_sharedWith_22 rfl ?_
            refine zr_aload_n (pc := 24) hV dX12_sharedWith_24 rfl rfl ?_
            refine zr_getI (pc := 25) hV 2 dX12_sharedWith_25 fX12_16 rfl rfl rfl (by decide) ?_
            have t3 := zx_g2 hσ
            refine zr_icmp_ge (pc := 28) hV 120 dX12_sharedWith_28 (by decide) (by omega) (by omega) (fun c4 => ?_) (fun c4 => ?_)
            · show V 120 [some (ZR 0), some (ZI o), some (ZI x2_5), some (ZI x3_5), some (ZI x4_22), some (ZI x5_22), some (ZI x6_22), none, none] [] 41 σ
              have zb0 : σ 0 2 = x6_22 := by omega
              have zcb : x4_22 = (zt_cb (zt_L σ x3_5) (zt_L σ o) (σ 0 2)) := by rw [zb0]; exact hi22_0
              refine zr_iload (pc := 120) hV dX12_sharedWith_120 rfl ?_
              refine zr_if_eq (pc := 122) hV 150 dX12_sharedWith_122 (by decide) (by omega) (fun c5 => ?_) (fun c5 => ?_)
              · show V 150 [some (ZR 0), some (ZI o), some (ZI x2_5), some (ZI x3_5), some (ZI x4_22), some (ZI x5_22), some (ZI x6_22), none, none] [] 41 σ
                refine zr_iload_n (pc := 150) hV dX12_sharedWith_150 rfl rfl ?_
                show V 151 [some (ZR 0), some (ZI o), some (ZI x2_5), some (ZI x3_5), some (ZI x4_22), some (ZI x5_22), some (ZI x6_22), none, none] [ZI x2_5] 41 σ
                refine zr_istore_n (pc := 151) hV [some (ZR 0), some (ZI o), some (ZI x2_5), some (ZI x3_5), some (ZI x4_22), some (ZI x5_22), some (ZI x6_22), none, none] dX12_sharedWith_151 rfl (by decide) rfl rfl ?_
                refine zr_iinc (pc := 152) hV [some (ZR 0), some (ZI o), some (ZI x2_5), some (ZI (x3_5 + 1)), some (ZI x4_22), some (ZI x5_22), some (ZI x6_22), none, none] (x3_5 + 1) dX12_sharedWith_152 rfl rfl (by decide) rfl rfl ?_
                refine zr_goto (pc := 155) hV 5 dX12_sharedWith_155 (by decide) ?_
                have t6 := zx_g3 hσ
                refine zr_sub (pc := 5) hV [some (ZR 0), some (ZI o), some (ZI x2_5), some (ZI (x3_5 + 1)), none, none, none, none, none] (⟨rfl, rfl, rfl, rfl, trivial⟩) ?_
                exact ih5 x2_5 (x3_5 + 1) (by omega) (by omega) (if hb : x5_22 = 1 then zt_sw_b hi5_0 (by rw [← zcb]; omega) else zt_sw_n hi5_0 (by rw [zb0]; exact hi22_1.2 (by omega))) (by omega) (by omega)
              · show V 125 [some (ZR 0), some (ZI o), some (ZI x2_5), some (ZI x3_5), some (ZI x4_22), some (ZI x5_22), some (ZI x6_22), none, none] [] 41 σ
                refine zr_iload_n (pc := 125) hV dX12_sharedWith_125 rfl rfl ?_
                refine zr_if_lt (pc := 126) hV 140 dX12_sharedWith_126 (by decide) (by omega) (fun c7 => ?_) (fun c7 => ?_)
                · show V 140 [some (ZR 0), some (ZI o), some (ZI x2_5), some (ZI x3_5), some (ZI x4_22), some (ZI x5_22), some (ZI x6_22), none, none] [] 41 σ
                  refine zr_bipush (pc := 140) hV 32 dX12_sharedWith_140 (by decide) ?_
                  refine zr_iload (pc := 142) hV dX12_sharedWith_142 rfl ?_
                  refine zr_imul (pc := 144) hV dX12_sharedWith_144 ?_
                  refine zr_iload_n (pc := 145) hV dX12_sharedWith_145 rfl rfl ?_
                  refine zr_iadd (pc := 146) hV dX12_sharedWith_146 ?_
                  refine zr_goto (pc := 147) hV 151 dX12_sharedWith_147 (by decide) ?_
                  show V 151 [some (ZR 0), some (ZI o), some (ZI x2_5), some (ZI x3_5), some (ZI x4_22), some (ZI x5_22), some (ZI x6_22), none, none] [ZI ((32 * x4_22) + x3_5)] 41 σ
                  refine zr_istore_n (pc := 151) hV [some (ZR 0), some (ZI o), some (ZI ((32 * x4_22) + x3_5)), some (ZI x3_5), some (ZI x4_22), some (ZI x5_22), some (ZI x6_22), none, none] dX12_sharedWith_151 rfl (by decide) rfl rfl ?_
                  refine zr_iinc (pc := 152) hV [some (ZR 0), some (ZI o), some (ZI ((32 * x4_22) + x3_5)), some (ZI (x3_5 + 1)), some (ZI x4_22), some (ZI x5_22), some (ZI x6_22), none, none] (x3_5 + 1) dX12_sharedWith_152 rfl rfl (by decide) rfl rfl ?_
                  refine zr_goto (pc := 155) hV 5 dX12_sharedWith_155 (by decide) ?_
                  have t8 := zx_g3 hσ
                  refine zr_sub (pc := 5) hV [some (ZR 0), some (ZI o), some (ZI ((32 * x4_22) + x3_5)), some (ZI (x3_5 + 1)), none, none, none, none, none] (⟨rfl, rfl, rfl, rfl, trivial⟩) ?_
                  exact ih5 ((32 * x4_22) + x3_5) (x3_5 + 1) (by omega) (by omega) (by have q := zt_sw_a (by omega) hi5_0 (by rw [zb0]; exact hi22_1.1 (by omega)) (by rw [← zcb]; omega); rw [← zcb] at q; exact q) (by omega) (by omega)
                · show V 129 [some (ZR 0), some (ZI o), some (ZI x2_5), some (ZI x3_5), some (ZI x4_22), some (ZI x5_22), some (ZI x6_22), none, none] [] 41 σ
                  refine zr_bipush (pc := 129) hV 32 dX12_sharedWith_129 (by decide) ?_
                  refine zr_iload (pc := 131) hV dX12_sharedWith_131 rfl ?_
                  refine zr_imul (pc := 133) hV dX12_sharedWith_133 ?_
                  refine zr_iload_n (pc := 134) hV dX12_sharedWith_134 rfl rfl ?_
                  refine zr_iadd (pc := 135) hV dX12_sharedWith_135 ?_
                  refine zr_iload_n (pc := 136) hV dX12_sharedWith_136 rfl rfl ?_
                  refine zr_icmp_ge (pc := 137) hV 150 dX12_sharedWith_137 (by decide) (by omega) (by omega) (fun c9 => ?_) (fun c9 => ?_)
                  · show V 150 [some (ZR 0), some (ZI o), some (ZI x2_5), some (ZI x3_5), some (ZI x4_22), some (ZI x5_22), some (ZI x6_22), none, none] [] 41 σ
                    refine zr_iload_n (pc := 150) hV dX12_sharedWith_150 rfl rfl ?_
                    show V 151 [some (ZR 0), some (ZI o), some (ZI x2_5), some (ZI x3_5), some (ZI x4_22), some (ZI x5_22), some (ZI x6_22), none, none] [ZI x2_5] 41 σ
                    refine zr_istore_n (pc := 151) hV [some (ZR 0), some (ZI o), some (ZI x2_5), some (ZI x3_5), some (ZI x4_22), some (ZI x5_22), some (ZI x6_22), none, none] dX12_sharedWith_151 rfl (by decide) rfl rfl ?_
                    refine zr_iinc (pc := 152) hV [some (ZR 0), some (ZI o), some (ZI x2_5), some (ZI (x3_5 + 1)), some (ZI x4_22), some (ZI x5_22), some (ZI x6_22), none, none] (x3_5 + 1) dX12_sharedWith_152 rfl rfl (by decide) rfl rfl ?_
                    refine zr_goto (pc := 155) hV 5 dX12_sharedWith_155 (by decide) ?_
                    have t10 := zx_g3 hσ
                    refine zr_sub (pc := 5) hV [some (ZR 0), some (ZI o), some (ZI x2_5), some (ZI (x3_5 + 1)), none, none, none, none, none] (⟨rfl, rfl, rfl, rfl, trivial⟩) ?_
                    exact ih5 x2_5 (x3_5 + 1) (by omega) (by omega) (if hb : x5_22 = 1 then zt_sw_b hi5_0 (by rw [← zcb]; omega) else zt_sw_n hi5_0 (by rw [zb0]; exact hi22_1.2 (by omega))) (by omega) (by omega)
                  · show V 140 [some (ZR 0), some (ZI o), some (ZI x2_5), some (ZI x3_5), some (ZI x4_22), some (ZI x5_22), some (ZI x6_22), none, none] [] 41 σ
                    refine zr_bipush (pc := 140) hV 32 dX12_sharedWith_140 (by decide) ?_
                    refine zr_iload (pc := 142) hV dX12_sharedWith_142 rfl ?_
                    refine zr_imul (pc := 144) hV dX12_sharedWith_144 ?_
                    refine zr_iload_n (pc := 145) hV dX12_sharedWith_145 rfl rfl ?_
                    refine zr_iadd (pc := 146) hV dX12_sharedWith_146 ?_
                    refine zr_goto (pc := 147) hV 151 dX12_sharedWith_147 (by decide) ?_
                    show V 151 [some (ZR 0), some (ZI o), some (ZI x2_5), some (ZI x3_5), some (ZI x4_22), some (ZI x5_22), some (ZI x6_22), none, none] [ZI ((32 * x4_22) + x3_5)] 41 σ
                    refine zr_istore_n (pc := 151) hV [some (ZR 0), some (ZI o), some (ZI ((32 * x4_22) + x3_5)), some (ZI x3_5), some (ZI x4_22), some (ZI x5_22), some (ZI x6_22), none, none] dX12_sharedWith_151 rfl (by decide) rfl rfl ?_
                    refine zr_iinc (pc := 152) hV [some (ZR 0), some (ZI o), some (ZI ((32 * x4_22) + x3_5)), some (ZI (x3_5 + 1)), some (ZI x4_22), some (ZI x5_22), some (ZI x6_22), none, none] (x3_5 + 1) dX12_sharedWith_152 rfl rfl (by decide) rfl rfl ?_
                    refine zr_goto (pc := 155) hV 5 dX12_sharedWith_155 (by decide) ?_
                    have t11 := zx_g3 hσ
                    refine zr_sub (pc := 5) hV [some (ZR 0), some (ZI o), some (ZI ((32 * x4_22) + x3_5)), some (ZI (x3_5 + 1)), none, none, none, none, none] (⟨rfl, rfl, rfl, rfl, trivial⟩) ?_
                    exact ih5 ((32 * x4_22) + x3_5) (x3_5 + 1) (by omega) (by omega) (by have q := zt_sw_a (by omega) hi5_0 (by rw [zb0]; exact hi22_1.1 (by omega)) (by rw [← zcb]; omega); rw [← zcb] at q; exact q) (by omega) (by omega)
            · show V 31 [some (ZR 0), some (ZI o), some (ZI x2_5), some (ZI x3_5), some (ZI x4_22), some (ZI x5_22), some (ZI x6_22), none, none] [] 41 σ
              have zL1 : zt_L σ x3_5 x6_22 = σ 2 (12 * x3_5 + x6_22) := rfl
              have zL2 : zt_L σ o x6_22 = σ 2 (12 * o + x6_22) := rfl
              have zr := zt_cb_r (zt_L σ x3_5) (zt_L σ o) x6_22
              have zle := zx_p2_le (m := x6_22) (n := 11) (by omega)
              have ze : zx_p2 11 = 2048 := rfl
              refine zr_aload_n (pc := 31) hV dX12_sharedWith_31 rfl rfl ?_
              refine zr_getR (pc := 32) hV 5 2 dX12_sharedWith_32 fX12_23 rfl rfl rfl (by decide) (zx_g5 hσ) (by omega) ?_
              refine zr_bipush (pc := 35) hV 12 dX12_sharedWith_35 (by decide) ?_
              refine zr_iload_n (pc := 37) hV dX12_sharedWith_37 rfl rfl ?_
              refine zr_imul (pc := 38) hV dX12_sharedWith_38 ?_
              refine zr_iload (pc := 39) hV dX12_sharedWith_39 rfl ?_
              refine zr_iadd (pc := 41) hV dX12_sharedWith_41 ?_
              refine zr_iald (pc := 42) hV dX12_sharedWith_42 rfl (by decide) rfl (by omega) ?_
              have t12 := zx_ga2 hσ ((12 * o) + x6_22)
              refine zr_istore (pc := 43) hV [some (ZR 0), some (ZI o), some (ZI x2_5), some (ZI x3_5), some (ZI x4_22), some (ZI x5_22), some (ZI x6_22), some (ZI (σ 2 ((12 * o) + x6_22))), none] dX12_sharedWith_43 (by decide) rfl rfl ?_
              refine zr_aload_n (pc := 45) hV dX12_sharedWith_45 rfl rfl ?_
              refine zr_getR (pc := 46) hV 5 2 dX12_sharedWith_46 fX12_23 rfl rfl rfl (by decide) (zx_g5 hσ) (by omega) ?_
              refine zr_bipush (pc := 49) hV 12 dX12_sharedWith_49 (by decide) ?_
              refine zr_iload_n (pc := 51) hV dX12_sharedWith_51 rfl rfl ?_
              refine zr_imul (pc := 52) hV dX12_sharedWith_52 ?_
              refine zr_iload (pc := 53) hV dX12_sharedWith_53 rfl ?_
              refine zr_iadd (pc := 55) hV dX12_sharedWith_55 ?_
              refine zr_iald (pc := 56) hV dX12_sharedWith_56 rfl (by decide) rfl (by omega) ?_
              have t13 := zx_ga2 hσ ((12 * x3_5) + x6_22)
              refine zr_istore (pc := 57) hV [some (ZR 0), some (ZI o), some (ZI x2_5), some (ZI x3_5), some (ZI x4_22), some (ZI x5_22), some (ZI x6_22), some (ZI (σ 2 ((12 * o) + x6_22))), some (ZI (σ 2 ((12 * x3_5) + x6_22)))] dX12_sharedWith_57 (by decide) rfl rfl ?_
              refine zr_iload (pc := 59) hV dX12_sharedWith_59 rfl ?_
              refine zr_if_eq (pc := 61) hV 87 dX12_sharedWith_61 (by decide) (by omega) (fun c14 => ?_) (fun c14 => ?_)
              · show V 87 [some (ZR 0), some (ZI o), some (ZI x2_5), some (ZI x3_5), some (ZI x4_22), some (ZI x5_22), some (ZI x6_22), some (ZI (σ 2 ((12 * o) + x6_22))), some (ZI (σ 2 ((12 * x3_5) + x6_22)))] [] 41 σ
                refine zr_iconst (pc := 87) hV 0 dX12_sharedWith_87 rfl ?_
                show V 88 [some (ZR 0), some (ZI o), some (ZI x2_5), some (ZI x3_5), some (ZI x4_22), some (ZI x5_22), some (ZI x6_22), some (ZI (σ 2 ((12 * o) + x6_22))), some (ZI (σ 2 ((12 * x3_5) + x6_22)))] [ZI 0] 41 σ
                refine zr_istore (pc := 88) hV [some (ZR 0), some (ZI o), some (ZI x2_5), some (ZI x3_5), some (ZI x4_22), some (ZI 0), some (ZI x6_22), some (ZI (σ 2 ((12 * o) + x6_22))), some (ZI (σ 2 ((12 * x3_5) + x6_22)))] dX12_sharedWith_88 (by decide) rfl rfl ?_
                refine zr_iconst (pc := 90) hV 2 dX12_sharedWith_90 rfl ?_
                refine zr_iload (pc := 91) hV dX12_sharedWith_91 rfl ?_
                refine zr_imul (pc := 93) hV dX12_sharedWith_93 ?_
                refine zr_iload (pc := 94) hV dX12_sharedWith_94 rfl ?_
                refine zr_iconst (pc := 96) hV 1 dX12_sharedWith_96 rfl ?_
                refine zr_icmp_eq (pc := 97) hV 106 dX12_sharedWith_97 (by decide) (by omega) ⟨by decide, by decide⟩ (fun c15 => ?_) (fun c15 => ?_)
                · show V 106 [some (ZR 0), some (ZI o), some (ZI x2_5), some (ZI x3_5), some (ZI x4_22), some (ZI 0), some (ZI x6_22), some (ZI (σ 2 ((12 * o) + x6_22))), some (ZI (σ 2 ((12 * x3_5) + x6_22)))] [ZI (2 * x4_22)] 41 σ
                  refine zr_iconst (pc := 106) hV 1 dX12_sharedWith_106 rfl ?_
                  refine zr_goto (pc := 107) hV 111 dX12_sharedWith_107 (by decide) ?_
                  show V 111 [some (ZR 0), some (ZI o), some (ZI x2_5), some (ZI x3_5), some (ZI x4_22), some (ZI 0), some (ZI x6_22), some (ZI (σ 2 ((12 * o) + x6_22))), some (ZI (σ 2 ((12 * x3_5) + x6_22)))] [ZI 1, ZI (2 * x4_22)] 41 σ
                  refine zr_iadd (pc := 111) hV dX12_sharedWith_111 ?_
                  refine zr_istore (pc := 112) hV [some (ZR 0), some (ZI o), some (ZI x2_5), some (ZI x3_5), some (ZI ((2 * x4_22) + 1)), some (ZI 0), some (ZI x6_22), some (ZI (σ 2 ((12 * o) + x6_22))), some (ZI (σ 2 ((12 * x3_5) + x6_22)))] dX12_sharedWith_112 (by decide) rfl rfl ?_
                  refine zr_iinc (pc := 114) hV [some (ZR 0), some (ZI o), some (ZI x2_5), some (ZI x3_5), some (ZI ((2 * x4_22) + 1)), some (ZI 0), some (ZI (x6_22 + 1)), some (ZI (σ 2 ((12 * o) + x6_22))), some (ZI (σ 2 ((12 * x3_5) + x6_22)))] (x6_22 + 1) dX12_sharedWith_114 rfl rfl (by decide) rfl rfl ?_
                  refine zr_goto (pc := 117) hV 22 dX12_sharedWith_117 (by decide) ?_
                  have t16 := zx_g2 hσ
                  refine zr_sub (pc := 22) hV [some (ZR 0), some (ZI o), some (ZI x2_5), some (ZI x3_5), some (ZI ((2 * x4_22) + 1)), some (ZI 0), some (ZI (x6_22 + 1)), none, none] (⟨rfl, rfl, rfl, rfl, rfl, rfl, rfl, trivial⟩) ?_
                  exact ih22 ((2 * x4_22) + 1) 0 (x6_22 + 1) (by omega) (by omega) (by omega) (by rw [zt_cb_y (by omega) (by omega), ← hi22_0]) ⟨fun h => absurd h (by omega), fun _ => by first | exact zt_co_n2 (by omega) (by omega) | exact zt_co_n1 (hi22_1.2 (by omega))⟩ (by omega) (by omega)
                · show V 100 [some (ZR 0), some (ZI o), some (ZI x2_5), some (ZI x3_5), some (ZI x4_22), some (ZI 0), some (ZI x6_22), some (ZI (σ 2 ((12 * o) + x6_22))), some (ZI (σ 2 ((12 * x3_5) + x6_22)))] [ZI (2 * x4_22)] 41 σ
                  refine zr_iload (pc := 100) hV dX12_sharedWith_100 rfl ?_
                  refine zr_iconst (pc := 102) hV 1 dX12_sharedWith_102 rfl ?_
                  refine zr_icmp_ne (pc := 103) hV 110 dX12_sharedWith_103 (by decide) (by omega) ⟨by decide, by decide⟩ (fun c17 => ?_) (fun c17 => ?_)
                  · show V 110 [some (ZR 0), some (ZI o), some (ZI x2_5), some (ZI x3_5), some (ZI x4_22), some (ZI 0), some (ZI x6_22), some (ZI (σ 2 ((12 * o) + x6_22))), some (ZI (σ 2 ((12 * x3_5) + x6_22)))] [ZI (2 * x4_22)] 41 σ
                    refine zr_iconst (pc := 110) hV 0 dX12_sharedWith_110 rfl ?_
                    show V 111 [some (ZR 0), some (ZI o), some (ZI x2_5), some (ZI x3_5), some (ZI x4_22), some (ZI 0), some (ZI x6_22), some (ZI (σ 2 ((12 * o) + x6_22))), some (ZI (σ 2 ((12 * x3_5) + x6_22)))] [ZI 0, ZI (2 * x4_22)] 41 σ
                    refine zr_iadd (pc := 111) hV dX12_sharedWith_111 ?_
                    refine zr_istore (pc := 112) hV [some (ZR 0), some (ZI o), some (ZI x2_5), some (ZI x3_5), some (ZI ((2 * x4_22) + 0)), some (ZI 0), some (ZI x6_22), some (ZI (σ 2 ((12 * o) + x6_22))), some (ZI (σ 2 ((12 * x3_5) + x6_22)))] dX12_sharedWith_112 (by decide) rfl rfl ?_
                    refine zr_iinc (pc := 114) hV [some (ZR 0), some (ZI o), some (ZI x2_5), some (ZI x3_5), some (ZI ((2 * x4_22) + 0)), some (ZI 0), some (ZI (x6_22 + 1)), some (ZI (σ 2 ((12 * o) + x6_22))), some (ZI (σ 2 ((12 * x3_5) + x6_22)))] (x6_22 + 1) dX12_sharedWith_114 rfl rfl (by decide) rfl rfl ?_
                    refine zr_goto (pc := 117) hV 22 dX12_sharedWith_117 (by decide) ?_
                    have t18 := zx_g2 hσ
                    refine zr_sub (pc := 22) hV [some (ZR 0), some (ZI o), some (ZI x2_5), some (ZI x3_5), some (ZI ((2 * x4_22) + 0)), some (ZI 0), some (ZI (x6_22 + 1)), none, none] (⟨rfl, rfl, rfl, rfl, rfl, rfl, rfl, trivial⟩) ?_
                    exact ih22 ((2 * x4_22) + 0) 0 (x6_22 + 1) (by omega) (by omega) (by omega) (by rw [zt_cb_n (by omega) (by omega), ← hi22_0]; omega) ⟨fun h => absurd h (by omega), fun _ => by first | exact zt_co_n2 (by omega) (by omega) | exact zt_co_n1 (hi22_1.2 (by omega))⟩ (by omega) (by omega)
                  · show V 106 [some (ZR 0), some (ZI o), some (ZI x2_5), some (ZI x3_5), some (ZI x4_22), some (ZI 0), some (ZI x6_22), some (ZI (σ 2 ((12 * o) + x6_22))), some (ZI (σ 2 ((12 * x3_5) + x6_22)))] [ZI (2 * x4_22)] 41 σ
                    refine zr_iconst (pc := 106) hV 1 dX12_sharedWith_106 rfl ?_
                    refine zr_goto (pc := 107) hV 111 dX12_sharedWith_107 (by decide) ?_
                    show V 111 [some (ZR 0), some (ZI o), some (ZI x2_5), some (ZI x3_5), some (ZI x4_22), some (ZI 0), some (ZI x6_22), some (ZI (σ 2 ((12 * o) + x6_22))), some (ZI (σ 2 ((12 * x3_5) + x6_22)))] [ZI 1, ZI (2 * x4_22)] 41 σ
                    refine zr_iadd (pc := 111) hV dX12_sharedWith_111 ?_
                    refine zr_istore (pc := 112) hV [some (ZR 0), some (ZI o), some (ZI x2_5), some (ZI x3_5), some (ZI ((2 * x4_22) + 1)), some (ZI 0), some (ZI x6_22), some (ZI (σ 2 ((12 * o) + x6_22))), some (ZI (σ 2 ((12 * x3_5) + x6_22)))] dX12_sharedWith_112 (by decide) rfl rfl ?_
                    refine zr_iinc (pc := 114) hV [some (ZR 0), some (ZI o), some (ZI x2_5), some (ZI x3_5), some (ZI ((2 * x4_22) + 1)), some (ZI 0), some (ZI (x6_22 + 1)), some (ZI (σ 2 ((12 * o) + x6_22))), some (ZI (σ 2 ((12 * x3_5) + x6_22)))] (x6_22 + 1) dX12_sharedWith_114 rfl rfl (by decide) rfl rfl ?_
                    refine zr_goto (pc := 117) hV 22 dX12_sharedWith_117 (by decide) ?_
                    have t19 := zx_g2 hσ
                    refine zr_sub (pc := 22) hV [some (ZR 0), some (ZI o), some (ZI x2_5), some (ZI x3_5), some (ZI ((2 * x4_22) + 1)), some (ZI 0), some (ZI (x6_22 + 1)), none, none] (⟨rfl, rfl, rfl, rfl, rfl, rfl, rfl, trivial⟩) ?_
                    exact ih22 ((2 * x4_22) + 1) 0 (x6_22 + 1) (by omega) (by omega) (by omega) (by rw [zt_cb_y (by omega) (by omega), ← hi22_0]) ⟨fun h => absurd h (by omega), fun _ => by first | exact zt_co_n2 (by omega) (by omega) | exact zt_co_n1 (hi22_1.2 (by omega))⟩ (by omega) (by omega)
              · show V 64 [some (ZR 0), some (ZI o), some (ZI x2_5), some (ZI x3_5), some (ZI x4_22), some (ZI x5_22), some (ZI x6_22), some (ZI (σ 2 ((12 * o) + x6_22))), some (ZI (σ 2 ((12 * x3_5) + x6_22)))] [] 41 σ
                refine zr_iload (pc := 64) hV dX12_sharedWith_64 rfl ?_
                refine zr_iconst (pc := 66) hV 1 dX12_sharedWith_66 rfl ?_
                refine zr_icmp_gt (pc := 67) hV 83 dX12_sharedWith_67 (by decide) (by omega) ⟨by decide, by decide⟩ (fun c20 => ?_) (fun c20 => ?_)
                · show V 83 [some (ZR 0), some (ZI o), some (ZI x2_5), some (ZI x3_5), some (ZI x4_22), some (ZI x5_22), some (ZI x6_22), some (ZI (σ 2 ((12 * o) + x6_22))), some (ZI (σ 2 ((12 * x3_5) + x6_22)))] [] 41 σ
                  refine zr_iconst (pc := 83) hV 1 dX12_sharedWith_83 rfl ?_
                  refine zr_goto (pc := 84) hV 88 dX12_sharedWith_84 (by decide) ?_
                  show V 88 [some (ZR 0), some (ZI o), some (ZI x2_5), some (ZI x3_5), some (ZI x4_22), some (ZI x5_22), some (ZI x6_22), some (ZI (σ 2 ((12 * o) + x6_22))), some (ZI (σ 2 ((12 * x3_5) + x6_22)))] [ZI 1] 41 σ
                  refine zr_istore (pc := 88) hV [some (ZR 0), some (ZI o), some (ZI x2_5), some (ZI x3_5), some (ZI x4_22), some (ZI 1), some (ZI x6_22), some (ZI (σ 2 ((12 * o) + x6_22))), some (ZI (σ 2 ((12 * x3_5) + x6_22)))] dX12_sharedWith_88 (by decide) rfl rfl ?_
                  refine zr_iconst (pc := 90) hV 2 dX12_sharedWith_90 rfl ?_
                  refine zr_iload (pc := 91) hV dX12_sharedWith_91 rfl ?_
                  refine zr_imul (pc := 93) hV dX12_sharedWith_93 ?_
                  refine zr_iload (pc := 94) hV dX12_sharedWith_94 rfl ?_
                  refine zr_iconst (pc := 96) hV 1 dX12_sharedWith_96 rfl ?_
                  refine zr_icmp_eq (pc := 97) hV 106 dX12_sharedWith_97 (by decide) (by omega) ⟨by decide, by decide⟩ (fun c21 => ?_) (fun c21 => ?_)
                  · exfalso; omega
                  · show V 100 [some (ZR 0), some (ZI o), some (ZI x2_5), some (ZI x3_5), some (ZI x4_22), some (ZI 1), some (ZI x6_22), some (ZI (σ 2 ((12 * o) + x6_22))), some (ZI (σ 2 ((12 * x3_5) + x6_22)))] [ZI (2 * x4_22)] 41 σ
                    refine zr_iload (pc := 100) hV dX12_sharedWith_100 rfl ?_
                    refine zr_iconst (pc := 102) hV 1 dX12_sharedWith_102 rfl ?_
                    refine zr_icmp_ne (pc := 103) hV 110 dX12_sharedWith_103 (by decide) (by omega) ⟨by decide, by decide⟩ (fun c22 => ?_) (fun c22 => ?_)
                    · show V 110 [some (ZR 0), some (ZI o), some (ZI x2_5), some (ZI x3_5), some (ZI x4_22), some (ZI 1), some (ZI x6_22), some (ZI (σ 2 ((12 * o) + x6_22))), some (ZI (σ 2 ((12 * x3_5) + x6_22)))] [ZI (2 * x4_22)] 41 σ
                      refine zr_iconst (pc := 110) hV 0 dX12_sharedWith_110 rfl ?_
                      show V 111 [some (ZR 0), some (ZI o), some (ZI x2_5), some (ZI x3_5), some (ZI x4_22), some (ZI 1), some (ZI x6_22), some (ZI (σ 2 ((12 * o) + x6_22))), some (ZI (σ 2 ((12 * x3_5) + x6_22)))] [ZI 0, ZI (2 * x4_22)] 41 σ
                      refine zr_iadd (pc := 111) hV dX12_sharedWith_111 ?_
                      refine zr_istore (pc := 112) hV [some (ZR 0), some (ZI o), some (ZI x2_5), some (ZI x3_5), some (ZI ((2 * x4_22) + 0)), some (ZI 1), some (ZI x6_22), some (ZI (σ 2 ((12 * o) + x6_22))), some (ZI (σ 2 ((12 * x3_5) + x6_22)))] dX12_sharedWith_112 (by decide) rfl rfl ?_
                      refine zr_iinc (pc := 114) hV [some (ZR 0), some (ZI o), some (ZI x2_5), some (ZI x3_5), some (ZI ((2 * x4_22) + 0)), some (ZI 1), some (ZI (x6_22 + 1)), some (ZI (σ 2 ((12 * o) + x6_22))), some (ZI (σ 2 ((12 * x3_5) + x6_22)))] (x6_22 + 1) dX12_sharedWith_114 rfl rfl (by decide) rfl rfl ?_
                      refine zr_goto (pc := 117) hV 22 dX12_sharedWith_117 (by decide) ?_
                      have t23 := zx_g2 hσ
                      refine zr_sub (pc := 22) hV [some (ZR 0), some (ZI o), some (ZI x2_5), some (ZI x3_5), some (ZI ((2 * x4_22) + 0)), some (ZI 1), some (ZI (x6_22 + 1)), none, none] (⟨rfl, rfl, rfl, rfl, rfl, rfl, rfl, trivial⟩) ?_
                      exact ih22 ((2 * x4_22) + 0) 1 (x6_22 + 1) (by omega) (by omega) (by omega) (by rw [zt_cb_n (by omega) (by omega), ← hi22_0]; omega) ⟨fun _ => zt_co_s (hi22_1.1 (by omega)) (by omega), fun h => absurd h (by omega)⟩ (by omega) (by omega)
                    · show V 106 [some (ZR 0), some (ZI o), some (ZI x2_5), some (ZI x3_5), some (ZI x4_22), some (ZI 1), some (ZI x6_22), some (ZI (σ 2 ((12 * o) + x6_22))), some (ZI (σ 2 ((12 * x3_5) + x6_22)))] [ZI (2 * x4_22)] 41 σ
                      refine zr_iconst (pc := 106) hV 1 dX12_sharedWith_106 rfl ?_
                      refine zr_goto (pc := 107) hV 111 dX12_sharedWith_107 (by decide) ?_
                      show V 111 [some (ZR 0), some (ZI o), some (ZI x2_5), some (ZI x3_5), some (ZI x4_22), some (ZI 1), some (ZI x6_22), some (ZI (σ 2 ((12 * o) + x6_22))), some (ZI (σ 2 ((12 * x3_5) + x6_22)))] [ZI 1, ZI (2 * x4_22)] 41 σ
                      refine zr_iadd (pc := 111) hV dX12_sharedWith_111 ?_
                      refine zr_istore (pc := 112) hV [some (ZR 0), some (ZI o), some (ZI x2_5), some (ZI x3_5), some (ZI ((2 * x4_22) + 1)), some (ZI 1), some (ZI x6_22), some (ZI (σ 2 ((12 * o) + x6_22))), some (ZI (σ 2 ((12 * x3_5) + x6_22)))] dX12_sharedWith_112 (by decide) rfl rfl ?_
                      refine zr_iinc (pc := 114) hV [some (ZR 0), some (ZI o), some (ZI x2_5), some (ZI x3_5), some (ZI ((2 * x4_22) + 1)), some (ZI 1), some (ZI (x6_22 + 1)), some (ZI (σ 2 ((12 * o) + x6_22))), some (ZI (σ 2 ((12 * x3_5) + x6_22)))] (x6_22 + 1) dX12_sharedWith_114 rfl rfl (by decide) rfl rfl ?_
                      refine zr_goto (pc := 117) hV 22 dX12_sharedWith_117 (by decide) ?_
                      have t24 := zx_g2 hσ
                      refine zr_sub (pc := 22) hV [some (ZR 0), some (ZI o), some (ZI x2_5), some (ZI x3_5), some (ZI ((2 * x4_22) + 1)), some (ZI 1), some (ZI (x6_22 + 1)), none, none] (⟨rfl, rfl, rfl, rfl, rfl, rfl, rfl, trivial⟩) ?_
                      exact ih22 ((2 * x4_22) + 1) 1 (x6_22 + 1) (by omega) (by omega) (by omega) (by rw [zt_cb_y (by omega) (by omega), ← hi22_0]) ⟨fun _ => zt_co_s (hi22_1.1 (by omega)) (by omega), fun h => absurd h (by omega)⟩ (by omega) (by omega)
                · show V 70 [some (ZR 0), some (ZI o), some (ZI x2_5), some (ZI x3_5), some (ZI x4_22), some (ZI x5_22), some (ZI x6_22), some (ZI (σ 2 ((12 * o) + x6_22))), some (ZI (σ 2 ((12 * x3_5) + x6_22)))] [] 41 σ
                  refine zr_iload (pc := 70) hV dX12_sharedWith_70 rfl ?_
                  refine zr_iconst (pc := 72) hV 1 dX12_sharedWith_72 rfl ?_
                  refine zr_icmp_gt (pc := 73) hV 83 dX12_sharedWith_73 (by decide) (by omega) ⟨by decide, by decide⟩ (fun c25 => ?_) (fun c25 => ?_)
                  · show V 83 [some (ZR 0), some (ZI o), some (ZI x2_5), some (ZI x3_5), some (ZI x4_22), some (ZI x5_22), some (ZI x6_22), some (ZI (σ 2 ((12 * o) + x6_22))), some (ZI (σ 2 ((12 * x3_5) + x6_22)))] [] 41 σ
                    refine zr_iconst (pc := 83) hV 1 dX12_sharedWith_83 rfl ?_
                    refine zr_goto (pc := 84) hV 88 dX12_sharedWith_84 (by decide) ?_
                    show V 88 [some (ZR 0), some (ZI o), some (ZI x2_5), some (ZI x3_5), some (ZI x4_22), some (ZI x5_22), some (ZI x6_22), some (ZI (σ 2 ((12 * o) + x6_22))), some (ZI (σ 2 ((12 * x3_5) + x6_22)))] [ZI 1] 41 σ
                    refine zr_istore (pc := 88) hV [some (ZR 0), some (ZI o), some (ZI x2_5), some (ZI x3_5), some (ZI x4_22), some (ZI 1), some (ZI x6_22), some (ZI (σ 2 ((12 * o) + x6_22))), some (ZI (σ 2 ((12 * x3_5) + x6_22)))] dX12_sharedWith_88 (by decide) rfl rfl ?_
                    refine zr_iconst (pc := 90) hV 2 dX12_sharedWith_90 rfl ?_
                    refine zr_iload (pc := 91) hV dX12_sharedWith_91 rfl ?_
                    refine zr_imul (pc := 93) hV dX12_sharedWith_93 ?_
                    refine zr_iload (pc := 94) hV dX12_sharedWith_94 rfl ?_
                    refine zr_iconst (pc := 96) hV 1 dX12_sharedWith_96 rfl ?_
                    refine zr_icmp_eq (pc := 97) hV 106 dX12_sharedWith_97 (by decide) (by omega) ⟨by decide, by decide⟩ (fun c26 => ?_) (fun c26 => ?_)
                    · show V 106 [some (ZR 0), some (ZI o), some (ZI x2_5), some (ZI x3_5), some (ZI x4_22), some (ZI 1), some (ZI x6_22), some (ZI (σ 2 ((12 * o) + x6_22))), some (ZI (σ 2 ((12 * x3_5) + x6_22)))] [ZI (2 * x4_22)] 41 σ
                      refine zr_iconst (pc := 106) hV 1 dX12_sharedWith_106 rfl ?_
                      refine zr_goto (pc := 107) hV 111 dX12_sharedWith_107 (by decide) ?_
                      show V 111 [some (ZR 0), some (ZI o), some (ZI x2_5), some (ZI x3_5), some (ZI x4_22), some (ZI 1), some (ZI x6_22), some (ZI (σ 2 ((12 * o) + x6_22))), some (ZI (σ 2 ((12 * x3_5) + x6_22)))] [ZI 1, ZI (2 * x4_22)] 41 σ
                      refine zr_iadd (pc := 111) hV dX12_sharedWith_111 ?_
                      refine zr_istore (pc := 112) hV [some (ZR 0), some (ZI o), some (ZI x2_5), some (ZI x3_5), some (ZI ((2 * x4_22) + 1)), some (ZI 1), some (ZI x6_22), some (ZI (σ 2 ((12 * o) + x6_22))), some (ZI (σ 2 ((12 * x3_5) + x6_22)))] dX12_sharedWith_112 (by decide) rfl rfl ?_
                      refine zr_iinc (pc := 114) hV [some (ZR 0), some (ZI o), some (ZI x2_5), some (ZI x3_5), some (ZI ((2 * x4_22) + 1)), some (ZI 1), some (ZI (x6_22 + 1)), some (ZI (σ 2 ((12 * o) + x6_22))), some (ZI (σ 2 ((12 * x3_5) + x6_22)))] (x6_22 + 1) dX12_sharedWith_114 rfl rfl (by decide) rfl rfl ?_
                      refine zr_goto (pc := 117) hV 22 dX12_sharedWith_117 (by decide) ?_
                      have t27 := zx_g2 hσ
                      refine zr_sub (pc := 22) hV [some (ZR 0), some (ZI o), some (ZI x2_5), some (ZI x3_5), some (ZI ((2 * x4_22) + 1)), some (ZI 1), some (ZI (x6_22 + 1)), none, none] (⟨rfl, rfl, rfl, rfl, rfl, rfl, rfl, trivial⟩) ?_
                      exact ih22 ((2 * x4_22) + 1) 1 (x6_22 + 1) (by omega) (by omega) (by omega) (by rw [zt_cb_y (by omega) (by omega), ← hi22_0]) ⟨fun _ => zt_co_s (hi22_1.1 (by omega)) (by omega), fun h => absurd h (by omega)⟩ (by omega) (by omega)
                    · show V 100 [some (ZR 0), some (ZI o), some (ZI x2_5), some (ZI x3_5), some (ZI x4_22), some (ZI 1), some (ZI x6_22), some (ZI (σ 2 ((12 * o) + x6_22))), some (ZI (σ 2 ((12 * x3_5) + x6_22)))] [ZI (2 * x4_22)] 41 σ
                      refine zr_iload (pc := 100) hV dX12_sharedWith_100 rfl ?_
                      refine zr_iconst (pc := 102) hV 1 dX12_sharedWith_102 rfl ?_
                      refine zr_icmp_ne (pc := 103) hV 110 dX12_sharedWith_103 (by decide) (by omega) ⟨by decide, by decide⟩ (fun c28 => ?_) (fun c28 => ?_)
                      · show V 110 [some (ZR 0), some (ZI o), some (ZI x2_5), some (ZI x3_5), some (ZI x4_22), some (ZI 1), some (ZI x6_22), some (ZI (σ 2 ((12 * o) + x6_22))), some (ZI (σ 2 ((12 * x3_5) + x6_22)))] [ZI (2 * x4_22)] 41 σ
                        refine zr_iconst (pc := 110) hV 0 dX12_sharedWith_110 rfl ?_
                        show V 111 [some (ZR 0), some (ZI o), some (ZI x2_5), some (ZI x3_5), some (ZI x4_22), some (ZI 1), some (ZI x6_22), some (ZI (σ 2 ((12 * o) + x6_22))), some (ZI (σ 2 ((12 * x3_5) + x6_22)))] [ZI 0, ZI (2 * x4_22)] 41 σ
                        refine zr_iadd (pc := 111) hV dX12_sharedWith_111 ?_
                        refine zr_istore (pc := 112) hV [some (ZR 0), some (ZI o), some (ZI x2_5), some (ZI x3_5), some (ZI ((2 * x4_22) + 0)), some (ZI 1), some (ZI x6_22), some (ZI (σ 2 ((12 * o) + x6_22))), some (ZI (σ 2 ((12 * x3_5) + x6_22)))] dX12_sharedWith_112 (by decide) rfl rfl ?_
                        refine zr_iinc (pc := 114) hV [some (ZR 0), some (ZI o), some (ZI x2_5), some (ZI x3_5), some (ZI ((2 * x4_22) + 0)), some (ZI 1), some (ZI (x6_22 + 1)), some (ZI (σ 2 ((12 * o) + x6_22))), some (ZI (σ 2 ((12 * x3_5) + x6_22)))] (x6_22 + 1) dX12_sharedWith_114 rfl rfl (by decide) rfl rfl ?_
                        refine zr_goto (pc := 117) hV 22 dX12_sharedWith_117 (by decide) ?_
                        have t29 := zx_g2 hσ
                        refine zr_sub (pc := 22) hV [some (ZR 0), some (ZI o), some (ZI x2_5), some (ZI x3_5), some (ZI ((2 * x4_22) + 0)), some (ZI 1), some (ZI (x6_22 + 1)), none, none] (⟨rfl, rfl, rfl, rfl, rfl, rfl, rfl, trivial⟩) ?_
                        exact ih22 ((2 * x4_22) + 0) 1 (x6_22 + 1) (by omega) (by omega) (by omega) (by rw [zt_cb_n (by omega) (by omega), ← hi22_0]; omega) ⟨fun _ => zt_co_s (hi22_1.1 (by omega)) (by omega), fun h => absurd h (by omega)⟩ (by omega) (by omega)
                      · exfalso; omega
                  · show V 76 [some (ZR 0), some (ZI o), some (ZI x2_5), some (ZI x3_5), some (ZI x4_22), some (ZI x5_22), some (ZI x6_22), some (ZI (σ 2 ((12 * o) + x6_22))), some (ZI (σ 2 ((12 * x3_5) + x6_22)))] [] 41 σ
                    refine zr_iload (pc := 76) hV dX12_sharedWith_76 rfl ?_
                    refine zr_iload (pc := 78) hV dX12_sharedWith_78 rfl ?_
                    refine zr_icmp_ne (pc := 80) hV 87 dX12_sharedWith_80 (by decide) (by omega) (by omega) (fun c30 => ?_) (fun c30 => ?_)
                    · show V 87 [some (ZR 0), some (ZI o), some (ZI x2_5), some (ZI x3_5), some (ZI x4_22), some (ZI x5_22), some (ZI x6_22), some (ZI (σ 2 ((12 * o) + x6_22))), some (ZI (σ 2 ((12 * x3_5) + x6_22)))] [] 41 σ
                      refine zr_iconst (pc := 87) hV 0 dX12_sharedWith_87 rfl ?_
                      show V 88 [some (ZR 0), some (ZI o), some (ZI x2_5), some (ZI x3_5), some (ZI x4_22), some (ZI x5_22), some (ZI x6_22), some (ZI (σ 2 ((12 * o) + x6_22))), some (ZI (σ 2 ((12 * x3_5) + x6_22)))] [ZI 0] 41 σ
                      refine zr_istore (pc := 88) hV [some (ZR 0), some (ZI o), some (ZI x2_5), some (ZI x3_5), some (ZI x4_22), some (ZI 0), some (ZI x6_22), some (ZI (σ 2 ((12 * o) + x6_22))), some (ZI (σ 2 ((12 * x3_5) + x6_22)))] dX12_sharedWith_88 (by decide) rfl rfl ?_
                      refine zr_iconst (pc := 90) hV 2 dX12_sharedWith_90 rfl ?_
                      refine zr_iload (pc := 91) hV dX12_sharedWith_91 rfl ?_
                      refine zr_imul (pc := 93) hV dX12_sharedWith_93 ?_
                      refine zr_iload (pc := 94) hV dX12_sharedWith_94 rfl ?_
                      refine zr_iconst (pc := 96) hV 1 dX12_sharedWith_96 rfl ?_
                      refine zr_icmp_eq (pc := 97) hV 106 dX12_sharedWith_97 (by decide) (by omega) ⟨by decide, by decide⟩ (fun c31 => ?_) (fun c31 => ?_)
                      · show V 106 [some (ZR 0), some (ZI o), some (ZI x2_5), some (ZI x3_5), some (ZI x4_22), some (ZI 0), some (ZI x6_22), some (ZI (σ 2 ((12 * o) + x6_22))), some (ZI (σ 2 ((12 * x3_5) + x6_22)))] [ZI (2 * x4_22)] 41 σ
                        refine zr_iconst (pc := 106) hV 1 dX12_sharedWith_106 rfl ?_
                        refine zr_goto (pc := 107) hV 111 dX12_sharedWith_107 (by decide) ?_
                        show V 111 [some (ZR 0), some (ZI o), some (ZI x2_5), some (ZI x3_5), some (ZI x4_22), some (ZI 0), some (ZI x6_22), some (ZI (σ 2 ((12 * o) + x6_22))), some (ZI (σ 2 ((12 * x3_5) + x6_22)))] [ZI 1, ZI (2 * x4_22)] 41 σ
                        refine zr_iadd (pc := 111) hV dX12_sharedWith_111 ?_
                        refine zr_istore (pc := 112) hV [some (ZR 0), some (ZI o), some (ZI x2_5), some (ZI x3_5), some (ZI ((2 * x4_22) + 1)), some (ZI 0), some (ZI x6_22), some (ZI (σ 2 ((12 * o) + x6_22))), some (ZI (σ 2 ((12 * x3_5) + x6_22)))] dX12_sharedWith_112 (by decide) rfl rfl ?_
                        refine zr_iinc (pc := 114) hV [some (ZR 0), some (ZI o), some (ZI x2_5), some (ZI x3_5), some (ZI ((2 * x4_22) + 1)), some (ZI 0), some (ZI (x6_22 + 1)), some (ZI (σ 2 ((12 * o) + x6_22))), some (ZI (σ 2 ((12 * x3_5) + x6_22)))] (x6_22 + 1) dX12_sharedWith_114 rfl rfl (by decide) rfl rfl ?_
                        refine zr_goto (pc := 117) hV 22 dX12_sharedWith_117 (by decide) ?_
                        have t32 := zx_g2 hσ
                        refine zr_sub (pc := 22) hV [some (ZR 0), some (ZI o), some (ZI x2_5), some (ZI x3_5), some (ZI ((2 * x4_22) + 1)), some (ZI 0), some (ZI (x6_22 + 1)), none, none] (⟨rfl, rfl, rfl, rfl, rfl, rfl, rfl, trivial⟩) ?_
                        exact ih22 ((2 * x4_22) + 1) 0 (x6_22 + 1) (by omega) (by omega) (by omega) (by rw [zt_cb_y (by omega) (by omega), ← hi22_0]) ⟨fun h => absurd h (by omega), fun _ => by first | exact zt_co_n2 (by omega) (by omega) | exact zt_co_n1 (hi22_1.2 (by omega))⟩ (by omega) (by omega)
                      · show V 100 [some (ZR 0), some (ZI o), some (ZI x2_5), some (ZI x3_5), some (ZI x4_22), some (ZI 0), some (ZI x6_22), some (ZI (σ 2 ((12 * o) + x6_22))), some (ZI (σ 2 ((12 * x3_5) + x6_22)))] [ZI (2 * x4_22)] 41 σ
                        refine zr_iload (pc := 100) hV dX12_sharedWith_100 rfl ?_
                        refine zr_iconst (pc := 102) hV 1 dX12_sharedWith_102 rfl ?_
                        refine zr_icmp_ne (pc := 103) hV 110 dX12_sharedWith_103 (by decide) (by omega) ⟨by decide, by decide⟩ (fun c33 => ?_) (fun c33 => ?_)
                        · show V 110 [some (ZR 0), some (ZI o), some (ZI x2_5), some (ZI x3_5), some (ZI x4_22), some (ZI 0), some (ZI x6_22), some (ZI (σ 2 ((12 * o) + x6_22))), some (ZI (σ 2 ((12 * x3_5) + x6_22)))] [ZI (2 * x4_22)] 41 σ
                          refine zr_iconst (pc := 110) hV 0 dX12_sharedWith_110 rfl ?_
                          show V 111 [some (ZR 0), some (ZI o), some (ZI x2_5), some (ZI x3_5), some (ZI x4_22), some (ZI 0), some (ZI x6_22), some (ZI (σ 2 ((12 * o) + x6_22))), some (ZI (σ 2 ((12 * x3_5) + x6_22)))] [ZI 0, ZI (2 * x4_22)] 41 σ
                          refine zr_iadd (pc := 111) hV dX12_sharedWith_111 ?_
                          refine zr_istore (pc := 112) hV [some (ZR 0), some (ZI o), some (ZI x2_5), some (ZI x3_5), some (ZI ((2 * x4_22) + 0)), some (ZI 0), some (ZI x6_22), some (ZI (σ 2 ((12 * o) + x6_22))), some (ZI (σ 2 ((12 * x3_5) + x6_22)))] dX12_sharedWith_112 (by decide) rfl rfl ?_
                          refine zr_iinc (pc := 114) hV [some (ZR 0), some (ZI o), some (ZI x2_5), some (ZI x3_5), some (ZI ((2 * x4_22) + 0)), some (ZI 0), some (ZI (x6_22 + 1)), some (ZI (σ 2 ((12 * o) + x6_22))), some (ZI (σ 2 ((12 * x3_5) + x6_22)))] (x6_22 + 1) dX12_sharedWith_114 rfl rfl (by decide) rfl rfl ?_
                          refine zr_goto (pc := 117) hV 22 dX12_sharedWith_117 (by decide) ?_
                          have t34 := zx_g2 hσ
                          refine zr_sub (pc := 22) hV [some (ZR 0), some (ZI o), some (ZI x2_5), some (ZI x3_5), some (ZI ((2 * x4_22) + 0)), some (ZI 0), some (ZI (x6_22 + 1)), none, none] (⟨rfl, rfl, rfl, rfl, rfl, rfl, rfl, trivial⟩) ?_
                          exact ih22 ((2 * x4_22) + 0) 0 (x6_22 + 1) (by omega) (by omega) (by omega) (by rw [zt_cb_n (by omega) (by omega), ← hi22_0]; omega) ⟨fun h => absurd h (by omega), fun _ => by first | exact zt_co_n2 (by omega) (by omega) | exact zt_co_n1 (hi22_1.2 (by omega))⟩ (by omega) (by omega)
                        · show V 106 [some (ZR 0), some (ZI o), some (ZI x2_5), some (ZI x3_5), some (ZI x4_22), some (ZI 0), some (ZI x6_22), some (ZI (σ 2 ((12 * o) + x6_22))), some (ZI (σ 2 ((12 * x3_5) + x6_22)))] [ZI (2 * x4_22)] 41 σ
                          refine zr_iconst (pc := 106) hV 1 dX12_sharedWith_106 rfl ?_
                          refine zr_goto (pc := 107) hV 111 dX12_sharedWith_107 (by decide) ?_
                          show V 111 [some (ZR 0), some (ZI o), some (ZI x2_5), some (ZI x3_5), some (ZI x4_22), some (ZI 0), some (ZI x6_22), some (ZI (σ 2 ((12 * o) + x6_22))), some (ZI (σ 2 ((12 * x3_5) + x6_22)))] [ZI 1, ZI (2 * x4_22)] 41 σ
                          refine zr_iadd (pc := 111) hV dX12_sharedWith_111 ?_
                          refine zr_istore (pc := 112) hV [some (ZR 0), some (ZI o), some (ZI x2_5), some (ZI x3_5), some (ZI ((2 * x4_22) + 1)), some (ZI 0), some (ZI x6_22), some (ZI (σ 2 ((12 * o) + x6_22))), some (ZI (σ 2 ((12 * x3_5) + x6_22)))] dX12_sharedWith_112 (by decide) rfl rfl ?_
                          refine zr_iinc (pc := 114) hV [some (ZR 0), some (ZI o), some (ZI x2_5), some (ZI x3_5), some (ZI ((2 * x4_22) + 1)), some (ZI 0), some (ZI (x6_22 + 1)), some (ZI (σ 2 ((12 * o) + x6_22))), some (ZI (σ 2 ((12 * x3_5) + x6_22)))] (x6_22 + 1) dX12_sharedWith_114 rfl rfl (by decide) rfl rfl ?_
                          refine zr_goto (pc := 117) hV 22 dX12_sharedWith_117 (by decide) ?_
                          have t35 := zx_g2 hσ
                          refine zr_sub (pc := 22) hV [some (ZR 0), some (ZI o), some (ZI x2_5), some (ZI x3_5), some (ZI ((2 * x4_22) + 1)), some (ZI 0), some (ZI (x6_22 + 1)), none, none] (⟨rfl, rfl, rfl, rfl, rfl, rfl, rfl, trivial⟩) ?_
                          exact ih22 ((2 * x4_22) + 1) 0 (x6_22 + 1) (by omega) (by omega) (by omega) (by rw [zt_cb_y (by omega) (by omega), ← hi22_0]) ⟨fun h => absurd h (by omega), fun _ => by first | exact zt_co_n2 (by omega) (by omega) | exact zt_co_n1 (hi22_1.2 (by omega))⟩ (by omega) (by omega)
                    · show V 83 [some (ZR 0), some (ZI o), some (ZI x2_5), some (ZI x3_5), some (ZI x4_22), some (ZI x5_22), some (ZI x6_22), some (ZI (σ 2 ((12 * o) + x6_22))), some (ZI (σ 2 ((12 * x3_5) + x6_22)))] [] 41 σ
                      refine zr_iconst (pc := 83) hV 1 dX12_sharedWith_83 rfl ?_
                      refine zr_goto (pc := 84) hV 88 dX12_sharedWith_84 (by decide) ?_
                      show V 88 [some (ZR 0), some (ZI o), some (ZI x2_5), some (ZI x3_5), some (ZI x4_22), some (ZI x5_22), some (ZI x6_22), some (ZI (σ 2 ((12 * o) + x6_22))), some (ZI (σ 2 ((12 * x3_5) + x6_22)))] [ZI 1] 41 σ
                      refine zr_istore (pc := 88) hV [some (ZR 0), some (ZI o), some (ZI x2_5), some (ZI x3_5), some (ZI x4_22), some (ZI 1), some (ZI x6_22), some (ZI (σ 2 ((12 * o) + x6_22))), some (ZI (σ 2 ((12 * x3_5) + x6_22)))] dX12_sharedWith_88 (by decide) rfl rfl ?_
                      refine zr_iconst (pc := 90) hV 2 dX12_sharedWith_90 rfl ?_
                      refine zr_iload (pc := 91) hV dX12_sharedWith_91 rfl ?_
                      refine zr_imul (pc := 93) hV dX12_sharedWith_93 ?_
                      refine zr_iload (pc := 94) hV dX12_sharedWith_94 rfl ?_
                      refine zr_iconst (pc := 96) hV 1 dX12_sharedWith_96 rfl ?_
                      refine zr_icmp_eq (pc := 97) hV 106 dX12_sharedWith_97 (by decide) (by omega) ⟨by decide, by decide⟩ (fun c36 => ?_) (fun c36 => ?_)
                      · show V 106 [some (ZR 0), some (ZI o), some (ZI x2_5), some (ZI x3_5), some (ZI x4_22), some (ZI 1), some (ZI x6_22), some (ZI (σ 2 ((12 * o) + x6_22))), some (ZI (σ 2 ((12 * x3_5) + x6_22)))] [ZI (2 * x4_22)] 41 σ
                        refine zr_iconst (pc := 106) hV 1 dX12_sharedWith_106 rfl ?_
                        refine zr_goto (pc := 107) hV 111 dX12_sharedWith_107 (by decide) ?_
                        show V 111 [some (ZR 0), some (ZI o), some (ZI x2_5), some (ZI x3_5), some (ZI x4_22), some (ZI 1), some (ZI x6_22), some (ZI (σ 2 ((12 * o) + x6_22))), some (ZI (σ 2 ((12 * x3_5) + x6_22)))] [ZI 1, ZI (2 * x4_22)] 41 σ
                        refine zr_iadd (pc := 111) hV dX12_sharedWith_111 ?_
                        refine zr_istore (pc := 112) hV [some (ZR 0), some (ZI o), some (ZI x2_5), some (ZI x3_5), some (ZI ((2 * x4_22) + 1)), some (ZI 1), some (ZI x6_22), some (ZI (σ 2 ((12 * o) + x6_22))), some (ZI (σ 2 ((12 * x3_5) + x6_22)))] dX12_sharedWith_112 (by decide) rfl rfl ?_
                        refine zr_iinc (pc := 114) hV [some (ZR 0), some (ZI o), some (ZI x2_5), some (ZI x3_5), some (ZI ((2 * x4_22) + 1)), some (ZI 1), some (ZI (x6_22 + 1)), some (ZI (σ 2 ((12 * o) + x6_22))), some (ZI (σ 2 ((12 * x3_5) + x6_22)))] (x6_22 + 1) dX12_sharedWith_114 rfl rfl (by decide) rfl rfl ?_
                        refine zr_goto (pc := 117) hV 22 dX12_sharedWith_117 (by decide) ?_
                        have t37 := zx_g2 hσ
                        refine zr_sub (pc := 22) hV [some (ZR 0), some (ZI o), some (ZI x2_5), some (ZI x3_5), some (ZI ((2 * x4_22) + 1)), some (ZI 1), some (ZI (x6_22 + 1)), none, none] (⟨rfl, rfl, rfl, rfl, rfl, rfl, rfl, trivial⟩) ?_
                        exact ih22 ((2 * x4_22) + 1) 1 (x6_22 + 1) (by omega) (by omega) (by omega) (by rw [zt_cb_y (by omega) (by omega), ← hi22_0]) ⟨fun _ => zt_co_s (hi22_1.1 (by omega)) (by omega), fun h => absurd h (by omega)⟩ (by omega) (by omega)
                      · show V 100 [some (ZR 0), some (ZI o), some (ZI x2_5), some (ZI x3_5), some (ZI x4_22), some (ZI 1), some (ZI x6_22), some (ZI (σ 2 ((12 * o) + x6_22))), some (ZI (σ 2 ((12 * x3_5) + x6_22)))] [ZI (2 * x4_22)] 41 σ
                        refine zr_iload (pc := 100) hV dX12_sharedWith_100 rfl ?_
                        refine zr_iconst (pc := 102) hV 1 dX12_sharedWith_102 rfl ?_
                        refine zr_icmp_ne (pc := 103) hV 110 dX12_sharedWith_103 (by decide) (by omega) ⟨by decide, by decide⟩ (fun c38 => ?_) (fun c38 => ?_)
                        · show V 110 [some (ZR 0), some (ZI o), some (ZI x2_5), some (ZI x3_5), some (ZI x4_22), some (ZI 1), some (ZI x6_22), some (ZI (σ 2 ((12 * o) + x6_22))), some (ZI (σ 2 ((12 * x3_5) + x6_22)))] [ZI (2 * x4_22)] 41 σ
                          refine zr_iconst (pc := 110) hV 0 dX12_sharedWith_110 rfl ?_
                          show V 111 [some (ZR 0), some (ZI o), some (ZI x2_5), some (ZI x3_5), some (ZI x4_22), some (ZI 1), some (ZI x6_22), some (ZI (σ 2 ((12 * o) + x6_22))), some (ZI (σ 2 ((12 * x3_5) + x6_22)))] [ZI 0, ZI (2 * x4_22)] 41 σ
                          refine zr_iadd (pc := 111) hV dX12_sharedWith_111 ?_
                          refine zr_istore (pc := 112) hV [some (ZR 0), some (ZI o), some (ZI x2_5), some (ZI x3_5), some (ZI ((2 * x4_22) + 0)), some (ZI 1), some (ZI x6_22), some (ZI (σ 2 ((12 * o) + x6_22))), some (ZI (σ 2 ((12 * x3_5) + x6_22)))] dX12_sharedWith_112 (by decide) rfl rfl ?_
                          refine zr_iinc (pc := 114) hV [some (ZR 0), some (ZI o), some (ZI x2_5), some (ZI x3_5), some (ZI ((2 * x4_22) + 0)), some (ZI 1), some (ZI (x6_22 + 1)), some (ZI (σ 2 ((12 * o) + x6_22))), some (ZI (σ 2 ((12 * x3_5) + x6_22)))] (x6_22 + 1) dX12_sharedWith_114 rfl rfl (by decide) rfl rfl ?_
                          refine zr_goto (pc := 117) hV 22 dX12_sharedWith_117 (by decide) ?_
                          have t39 := zx_g2 hσ
                          refine zr_sub (pc := 22) hV [some (ZR 0), some (ZI o), some (ZI x2_5), some (ZI x3_5), some (ZI ((2 * x4_22) + 0)), some (ZI 1), some (ZI (x6_22 + 1)), none, none] (⟨rfl, rfl, rfl, rfl, rfl, rfl, rfl, trivial⟩) ?_
                          exact ih22 ((2 * x4_22) + 0) 1 (x6_22 + 1) (by omega) (by omega) (by omega) (by rw [zt_cb_n (by omega) (by omega), ← hi22_0]; omega) ⟨fun _ => zt_co_s (hi22_1.1 (by omega)) (by omega), fun h => absurd h (by omega)⟩ (by omega) (by omega)
                        · show V 106 [some (ZR 0), some (ZI o), some (ZI x2_5), some (ZI x3_5), some (ZI x4_22), some (ZI 1), some (ZI x6_22), some (ZI (σ 2 ((12 * o) + x6_22))), some (ZI (σ 2 ((12 * x3_5) + x6_22)))] [ZI (2 * x4_22)] 41 σ
                          refine zr_iconst (pc := 106) hV 1 dX12_sharedWith_106 rfl ?_
                          refine zr_goto (pc := 107) hV 111 dX12_sharedWith_107 (by decide) ?_
                          show V 111 [some (ZR 0), some (ZI o), some (ZI x2_5), some (ZI x3_5), some (ZI x4_22), some (ZI 1), some (ZI x6_22), some (ZI (σ 2 ((12 * o) + x6_22))), some (ZI (σ 2 ((12 * x3_5) + x6_22)))] [ZI 1, ZI (2 * x4_22)] 41 σ
                          refine zr_iadd (pc := 111) hV dX12_sharedWith_111 ?_
                          refine zr_istore (pc := 112) hV [some (ZR 0), some (ZI o), some (ZI x2_5), some (ZI x3_5), some (ZI ((2 * x4_22) + 1)), some (ZI 1), some (ZI x6_22), some (ZI (σ 2 ((12 * o) + x6_22))), some (ZI (σ 2 ((12 * x3_5) + x6_22)))] dX12_sharedWith_112 (by decide) rfl rfl ?_
                          refine zr_iinc (pc := 114) hV [some (ZR 0), some (ZI o), some (ZI x2_5), some (ZI x3_5), some (ZI ((2 * x4_22) + 1)), some (ZI 1), some (ZI (x6_22 + 1)), some (ZI (σ 2 ((12 * o) + x6_22))), some (ZI (σ 2 ((12 * x3_5) + x6_22)))] (x6_22 + 1) dX12_sharedWith_114 rfl rfl (by decide) rfl rfl ?_
                          refine zr_goto (pc := 117) hV 22 dX12_sharedWith_117 (by decide) ?_
                          have t40 := zx_g2 hσ
                          refine zr_sub (pc := 22) hV [some (ZR 0), some (ZI o), some (ZI x2_5), some (ZI x3_5), some (ZI ((2 * x4_22) + 1)), some (ZI 1), some (ZI (x6_22 + 1)), none, none] (⟨rfl, rfl, rfl, rfl, rfl, rfl, rfl, trivial⟩) ?_
                          exact ih22 ((2 * x4_22) + 1) 1 (x6_22 + 1) (by omega) (by omega) (by omega) (by rw [zt_cb_y (by omega) (by omega), ← hi22_0]) ⟨fun _ => zt_co_s (hi22_1.1 (by omega)) (by omega), fun h => absurd h (by omega)⟩ (by omega) (by omega)
        have t41 := zx_g2 hσ
        exact L22 (12 - (0 : Int) + 1 : Int).toNat 0 1 0 (by omega) (by omega) (by omega) (zt_cb_0 (zt_L σ x3_5) (zt_L σ o)).symm ⟨fun _ => zt_co_0 _ _, fun h => absurd h (by omega)⟩ (by omega) (by omega)
  have t42 := zx_g3 hσ
  exact L5 (20 - (0 : Int) + 1 : Int).toNat (-4) 0 (by omega) (by omega) (zt_sw_0 σ o) (by omega) (by omega)
set_option maxHeartbeats 800000 in
theorem c_X12_unorder3 {σ : zq_S} (hσ : zx_T σ)  (Mσ : zx_M σ) (Oσ : zx_O σ) (Tσ : zx_TK σ) (Wσ : zx_W σ) : zq_C zx_w yX12_unorder cX12_unorder 1 (some .int) 0 0 41 41 [ZR 0] σ (zq_pi (fun r τ => zx_T τ ∧ (∀ a i : Int, (¬ (a = 0 ∧ i = 3) ∧ ¬ (a = 0 ∧ i = 30)) → τ a i = σ a i) ∧ ((σ 0 3 = 0 → r = -2 ∧ τ 0 3 = 0) ∧ (σ 0 3 ≠ 0 → r = σ 0 3 - 1 ∧ τ 0 3 = σ 0 3 - 1)) ∧ zx_M τ ∧ zx_O τ ∧ zx_TK τ ∧ zx_W τ)) := by
  refine zq_C_of (by decide) (Nat.le_refl _) (Nat.le_of_ble_eq_true rfl) [some (ZR 0)] rfl (fun V hV => ?_)
  show V 0 [some (ZR 0)] [] 41 σ
  refine zr_aload_n (pc := 0) hV dX12_unorder_0 rfl rfl ?_
  refine zr_getI (pc := 1) hV 3 dX12_unorder_1 fX12_150 rfl rfl rfl (by decide) ?_
  have t1 := zx_g3 hσ
  refine zr_if_ne (pc := 4) hV 10 dX12_unorder_4 (by decide) (by omega) (fun c2 => ?_) (fun c2 => ?_)
  · show V 10 [some (ZR 0)] [] 41 σ
    refine zr_aload_n (pc := 10) hV dX12_unorder_10 rfl rfl ?_
    refine zr_dup (pc := 11) hV dX12_unorder_11 (fun _ => rfl) ?_
    refine zr_getI (pc := 12) hV 3 dX12_unorder_12 fX12_150 rfl rfl rfl (by decide) ?_
    have t3 := zx_g3 hσ
    refine zr_iconst (pc := 15) hV 1 dX12_unorder_15 rfl ?_
    refine zr_isub (pc := 16) hV dX12_unorder_16 ?_
    refine zr_putI (pc := 17) hV 3 dX12_unorder_17 fX12_150 rfl rfl rfl rfl (by decide) (fun σ17 eσ17 => ?_)
    have hσ17 : zx_T σ17 := zx_u3 eσ17 hσ (by omega)
    have hFσ17 : ∀ a i : Int, (¬ (a = 0 ∧ i = 3) ∧ ¬ (a = 0 ∧ i = 30)) → σ17 a i = σ a i := fun a i h => by rw [eσ17, zq_up_ne h.1]
    have Oσ17 : zx_O σ17 := zx_O_le Oσ eσ17 (by omega)
    have Tσ17 : zx_TK σ17 := zx_TK_le Tσ eσ17 (by omega)
    refine zr_aload_n (pc := 20) hV dX12_unorder_20 rfl rfl ?_
    refine zr_iconst (pc := 21) hV 0 dX12_unorder_21 rfl ?_
    refine zr_putZ (pc := 22) hV 30 dX12_unorder_22 fX12_153 rfl rfl rfl (by omega) rfl (by decide) (fun σ22 eσ22 => ?_)
    have hσ22 : zx_T σ22 := zx_u30 eσ22 hσ17 (by omega)
    have hFσ22 : ∀ a i : Int, (¬ (a = 0 ∧ i = 3) ∧ ¬ (a = 0 ∧ i = 30)) → σ22 a i = σ a i := fun a i h => by rw [eσ22, zq_up_ne h.2]; exact hFσ17 a i h
    have Mσ22 : zx_M σ22 := zx_M_0 (by rw [eσ22, zq_up_same])
    have Oσ22 : zx_O σ22 := zx_O_fr (fun i => by rw [eσ22]; exact zq_up_ne (by omega)) (fun i => by rw [eσ22]; exact zq_up_ne (by omega)) (fun i => by rw [eσ22]; exact zq_up_ne (by omega)) (by rw [eσ22]; exact zq_up_ne (by omega)) (by rw [eσ22]; exact zq_up_ne (by omega)) Oσ17
    have Tσ22 : zx_TK σ22 := zx_TK_fr (fun i => by rw [eσ22]; exact zq_up_ne (by omega)) (by rw [eσ22]; exact zq_up_ne (by omega)) Tσ17
    have Wσ22 : zx_W σ22 := zx_W_0 (by rw [eσ22, zq_up_same])
    refine zr_aload_n (pc := 25) hV dX12_unorder_25 rfl rfl ?_
    refine zr_getI (pc := 26) hV 3 dX12_unorder_26 fX12_150 rfl rfl rfl (by decide) ?_
    have t4 := zx_g3 hσ22
    have t5 : σ22 0 3 = σ17 0 3 := by rw [eσ22]; exact zq_up_ne (by omega)
    have t6 : σ17 0 3 = (σ 0 3) - 1 := by rw [eσ17]; exact zq_up_same _ _ _ _
    have t7 := zx_g3 hσ22
    have t8 : σ22 0 3 = σ17 0 3 := by rw [eσ22]; exact zq_up_ne (by omega)
    have t9 : σ17 0 3 = (σ 0 3) - 1 := by rw [eσ17]; exact zq_up_same _ _ _ _
    exact zr_iret (pc := 29) hV dX12_unorder_29 rfl rfl ⟨_, rfl, (by omega), hσ22, hFσ22, (by omega), Mσ22, Oσ22, Tσ22, Wσ22⟩
  · show V 7 [some (ZR 0)] [] 41 σ
    refine zr_bipush (pc := 7) hV (-2) dX12_unorder_7 (by decide) ?_
    have t10 := zx_g3 hσ
    exact zr_iret (pc := 9) hV dX12_unorder_9 rfl rfl ⟨_, rfl, ⟨by decide, by decide⟩, hσ, (fun a i _ => rfl), (by omega), Mσ, Oσ, Tσ, Wσ⟩
