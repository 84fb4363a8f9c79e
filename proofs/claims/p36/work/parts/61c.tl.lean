set_option maxHeartbeats 800000 in
theorem c_X12_sharedWith2 {σ : zq_S} (hσ : zx_T σ) (o : Int) (q0 : 0 ≤ o ∧ o ≤ 20) : zq_C zx_w yX12_sharedWith cX12_sharedWith 9 (some .int) 0 0 41 41 [ZR 0, ZI o] σ (zq_pp σ (fun r => zq_hid (zt_sw σ o (σ 0 3) r))) := by
  refine zq_C_of (by decide) (Nat.le_refl _) (Nat.le_of_ble_eq_true rfl) [some (ZR 0), some (ZI o), none, none, none, none, none, none, none] rfl (fun V hV => ?_)
  have zb2 := zx_g2 hσ
  have z3 := zx_g3 hσ
  show V 0 [some (ZR 0), some (ZI o), none, none, none, none, none, none, none] [] 41 σ
  refine zr_bipush (pc := 0) hV (-4) dX12_sharedWith_0 (by decide) ?_
  refine zr_istore_n (pc := 2) hV [some (ZR 0), some (ZI o), some (ZI (-4)), none, none, none, none, none, none] dX12_sharedWith_2 rfl (by decide) rfl rfl ?_
  refine zr_iconst (pc := 3) hV 0 dX12_sharedWith_3 rfl ?_
  refine zr_istore_n (pc := 4) hV [some (ZR 0), some (ZI o), some (ZI (-4)), some (ZI 0), none, none, none, none, none] dX12_sharedWith_4 rfl (by decide) rfl rfl ?_
  have L5 : ∀ (fuel : Nat) (x2_5 : Int) (x3_5 : Int), ((-4) ≤ x2_5 ∧ x2_5 ≤ 131091) → (0 ≤ x3_5 ∧ x3_5 ≤ 20) → (zq_hid (zt_sw σ o x3_5 x2_5)) → (x3_5 ≤ σ 0 3) → 20 - x3_5 < (fuel : Int) → V 5 [some (ZR 0), some (ZI o), some (ZI x2_5), some (ZI x3_5), none, none, none, none, none] [] 41 σ := by
    intro fuel
    induction fuel with
    | zero =>
      intro x2_5 x3_5 hx2_5 hx3_5 hi5_0 hi5_1 hm5
      exfalso; omega
    | succ fuel ih =>
      intro x2_5 x3_5 hx2_5 hx3_5 hi5_0 hi5_1 hm5
      have ih5 := ih
      show V 5 [some (ZR 0), some (ZI o), some (ZI x2_5), some (ZI x3_5), none, none, none, none, none] [] 41 σ
      refine zr_iload_n (pc := 5) hV dX12_sharedWith_5 rfl rfl ?_
      refine zr_aload_n (pc := 6) hV dX12_sharedWith_6 rfl rfl ?_
      refine zr_getI (pc := 7) hV 3 dX12_sharedWith_7 fX12_150 rfl rfl rfl (by decide) ?_
      have t1 := zx_g3 hσ
      refine zr_icmp_ge (pc := 10) hV 158 dX12_sharedWith_10 (by decide) (by omega) (by omega) (fun c2 => ?_) (fun c2 => ?_)
      · show V 158 [some (ZR 0), some (ZI o), some (ZI x2_5), some (ZI x3_5), none, none, none, none, none] [] 41 σ
        refine zr_iload_n (pc := 158) hV dX12_sharedWith_158 rfl rfl ?_
        exact zr_iret (pc := 159) hV dX12_sharedWith_159 rfl rfl ⟨rfl, _, rfl, (by omega), (by have q := hi5_0; rw [show x3_5 = σ 0 3 by omega] at q; exact q)⟩
      · show V 13 [some (ZR 0), some (ZI o), some (ZI x2_5), some (ZI x3_5), none, none, none, none, none] [] 41 σ
        refine zr_iconst (pc := 13) hV 0 dX12_sharedWith_13 rfl ?_
        refine zr_istore (pc := 14) hV [some (ZR 0), some (ZI o), some (ZI x2_5), some (ZI x3_5), some (ZI 0), none, none, none, none] dX12_sharedWith_14 (by decide) rfl rfl ?_
        refine zr_iconst (pc := 16) hV 1 dX12_sharedWith_16 rfl ?_
        refine zr_istore (pc := 17) hV [some (ZR 0), some (ZI o), some (ZI x2_5), some (ZI x3_5), some (ZI 0), some (ZI 1), none, none, none] dX12_sharedWith_17 (by decide) rfl rfl ?_
        refine zr_iconst (pc := 19) hV 0 dX12_sharedWith_19 rfl ?_
        refine zr_istore (pc := 20) hV [some (ZR 0), some (ZI o), some (ZI x2_5), some (ZI x3_5), some (ZI 0), some (ZI 1), some (ZI 0), none, none] dX12_sharedWith_20 (by decide) rfl rfl ?_
        have L22 : ∀ (fuel : Nat) (x4_22 : Int) (x5_22 : Int) (x6_22 : Int), (0 ≤ x4_22 ∧ x4_22 ≤ 4095) → (0 ≤ x5_22 ∧ x5_22 ≤ 1) → (0 ≤ x6_22 ∧ x6_22 ≤ 12) → (x4_22 = zt_cb (zt_L σ x3_5) (zt_L σ o) x6_22) → (zq_hid ((x5_22 = 1 → zt_co (zt_L σ x3_5) (zt_L σ o) x6_22) ∧ (x5_22 = 0 → ¬ zt_co (zt_L σ x3_5) (zt_L σ o) x6_22))) → (x6_22 ≤ σ 0 2) → 12 - x6_22 < (fuel : Int) → V 22 [some (ZR 0), some (ZI o), some (ZI x2_5), some (ZI x3_5), some (ZI x4_22), some (ZI x5_22), some (ZI x6_22), none, none] [] 41 σ := by
          intro fuel
          induction fuel with
          | zero =>
            intro x4_22 x5_22 x6_22 hx4_22 hx5_22 hx6_22 hi22_0 hi22_1 hi22_2 hm22
            exfalso; omega
          | succ fuel ih =>
            intro x4_22 x5_22 x6_22 hx4_22 hx5_22 hx6_22 hi22_0 hi22_1 hi22_2 hm22
            have ih22 := ih
            show V 22 [some (ZR 0), some (ZI o), some (ZI x2_5), some (ZI x3_5), some (ZI x4_22), some (ZI x5_22), some (ZI x6_22), none, none] [] 41 σ
            refine zr_iload (pc := 22) hV dX12_sharedWith_22 rfl ?_
            refine zr_aload_n (pc := 24) hV dX12_sharedWith_24 rfl rfl ?_
            refine zr_getI (pc := 25) hV 2 dX12_sharedWith_25 fX12_16 rfl rfl rfl (by decide) ?_
            have t3 := zx_g2 hσ
            refine zr_icmp_ge (pc := 28) hV 120 dX12_sharedWith_28 (by decide) (by omega) (by omega) (fun c4 => ?_) (fun c4 => ?_)
            · show V 120 [some (ZR 0), some (ZI o), some (ZI x2_5), some (ZI x3_5), some (ZI x4_22), some (ZI x5_22), some (ZI x6_22), none, none] [] 41 σ
              have zb0 : σ 0 2 = x6_22 := by omega
              have zcb : x4_22 = (zt_cb (zt_L σ x3_5) (zt_L σ o) (σ 0 2)) := by rw [zb0]; exact hi22_0
              refine zr_iload (pc := 120) hV dX12_sharedWith_120 rfl ?_
              refine zr_if_eq (pc := 122) hV 150 dX12_sharedWith_122 (by decide) (by omega) (fun c5 => ?_) (fun c5 => ?_)
              · show V 150 [some (ZR 0), some (ZI o), some (ZI x2_5), some (ZI x3_5), some (ZI x4_22), some (ZI x5_22), some (ZI x6_22), none, none] [] 41 σ
                refine zr_iload_n (pc := 150) hV dX12_sharedWith_150 rfl rfl ?_
                show V 151 [some (ZR 0), some (ZI o), some (ZI x2_5), some (ZI x3_5), some (ZI x4_22), some (ZI x5_22), some (ZI x6_22), none, none] [ZI x2_5] 41 σ
                refine zr_istore_n (pc := 151) hV [some (ZR 0), some (ZI o), some (ZI x2_5), some (ZI x3_5), some (ZI x4_22), some (ZI x5_22), some (ZI x6_22), none, none] dX12_sharedWith_151 rfl (by decide) rfl rfl ?_
                refine zr_iinc (pc := 152) hV [some (ZR 0), some (ZI o), some (ZI x2_5), some (ZI (x3_5 + 1)), some (ZI x4_22), some (ZI x5_22), some (ZI x6_22), none, none] (x3_5 + 1) dX12_sharedWith_152 rfl rfl (by decide) rfl rfl ?_
                refine zr_goto (pc := 155) hV 5 dX12_sharedWith_155 (by decide) ?_
                have t6 := zx_g3 hσ
                refine zr_sub (pc := 5) hV [some (ZR 0), some (ZI o), some (ZI x2_5), some (ZI (x3_5 + 1)), none, none, none, none, none] (⟨rfl, rfl, rfl, rfl, trivial⟩) ?_
                exact ih5 x2_5 (x3_5 + 1) (by omega) (by omega) (if hb : x5_22 = 1 then zt_sw_b hi5_0 (by rw [← zcb]; omega) else zt_sw_n hi5_0 (by rw [zb0]; exact hi22_1.2 (by omega))) (by omega) (by omega)
              · show V 125 [some (ZR 0), some (ZI o), some (ZI x2_5), some (ZI x3_5), some (ZI x4_22), some (ZI x5_22), some (ZI x6_22), none, none] [] 41 σ
                refine zr_iload_n (pc := 125) hV dX12_sharedWith_125 rfl rfl ?_
                refine zr_if_lt (pc := 126) hV 140 dX12_sharedWith_126 (by decide) (by omega) (fun c7 => ?_) (fun c7 => ?_)
                · show V 140 [some (ZR 0), some (ZI o), some (ZI x2_5), some (ZI x3_5), some (ZI x4_22), some (ZI x5_22), some (ZI x6_22), none, none] [] 41 σ
                  refine zr_bipush (pc := 140) hV 32 dX12_sharedWith_140 (by decide) ?_
                  refine zr_iload (pc := 142) hV dX12_sharedWith_142 rfl ?_
                  refine zr_imul (pc := 144) hV dX12_sharedWith_144 ?_
                  refine zr_iload_n (pc := 145) hV dX12_sharedWith_145 rfl rfl ?_
                  refine zr_iadd (pc := 146) hV dX12_sharedWith_146 ?_
                  refine zr_goto (pc := 147) hV 151 dX12_sharedWith_147 (by decide) ?_
                  show V 151 [some (ZR 0), some (ZI o), some (ZI x2_5), some (ZI x3_5), some (ZI x4_22), some (ZI x5_22), some (ZI x6_22), none, none] [ZI ((32 * x4_22) + x3_5)] 41 σ
                  refine zr_istore_n (pc := 151) hV [some (ZR 0), some (ZI o), some (ZI ((32 * x4_22) + x3_5)), some (ZI x3_5), some (ZI x4_22), some (ZI x5_22), some (ZI x6_22), none, none] dX12_sharedWith_151 rfl (by decide) rfl rfl ?_
                  refine zr_iinc (pc := 152) hV [some (ZR 0), some (ZI o), some (ZI ((32 * x4_22) + x3_5)), some (ZI (x3_5 + 1)), some (ZI x4_22), some (ZI x5_22), some (ZI x6_22), none, none] (x3_5 + 1) dX12_sharedWith_152 rfl rfl (by decide) rfl rfl ?_
                  refine zr_goto (pc := 155) hV 5 dX12_sharedWith_155 (by decide) ?_
                  have t8 := zx_g3 hσ
                  refine zr_sub (pc := 5) hV [some (ZR 0), some (ZI o), some (ZI ((32 * x4_22) + x3_5)), some (ZI (x3_5 + 1)), none, none, none, none, none] (⟨rfl, rfl, rfl, rfl, trivial⟩) ?_
                  exact ih5 ((32 * x4_22) + x3_5) (x3_5 + 1) (by omega) (by omega) (by have q := zt_sw_a (by omega) hi5_0 (by rw [zb0]; exact hi22_1.1 (by omega)) (by rw [← zcb]; omega); rw [← zcb] at q; exact q) (by omega) (by omega)
                · show V 129 [some (ZR 0), some (ZI o), some (ZI x2_5), some (ZI x3_5), some (ZI x4_22), some (ZI x5_22), some (ZI x6_22), none, none] [] 41 σ
                  refine zr_bipush (pc := 129) hV 32 dX12_sharedWith_129 (by decide) ?_
                  refine zr_iload (pc := 131) hV dX12_sharedWith_131 rfl ?_
                  refine zr_imul (pc := 133) hV dX12_sharedWith_133 ?_
                  refine zr_iload_n (pc := 134) hV dX12_sharedWith_134 rfl rfl ?_
                  refine zr_iadd (pc := 135) hV dX12_sharedWith_135 ?_
                  refine zr_iload_n (pc := 136) hV dX12_sharedWith_136 rfl rfl ?_
                  refine zr_icmp_ge (pc := 137) hV 150 dX12_sharedWith_137 (by decide) (by omega) (by omega) (fun c9 => ?_) (fun c9 => ?_)
                  · show V 150 [some (ZR 0), some (ZI o), some (ZI x2_5), some (ZI x3_5), some (ZI x4_22), some (ZI x5_22), some (ZI x6_22), none, none] [] 41 σ
                    refine zr_iload_n (pc := 150) hV dX12_sharedWith_150 rfl rfl ?_
                    show V 151 [some (ZR 0), some (ZI o), some (ZI x2_5), some (ZI x3_5), some (ZI x4_22), some (ZI x5_22), some (ZI x6_22), none, none] [ZI x2_5] 41 σ
                    refine zr_istore_n (pc := 151) hV [some (ZR 0), some (ZI o), some (ZI x2_5), some (ZI x3_5), some (ZI x4_22), some (ZI x5_22), some (ZI x6_22), none, none] dX12_sharedWith_151 rfl (by decide) rfl rfl ?_
                    refine zr_iinc (pc := 152) hV [some (ZR 0), some (ZI o), some (ZI x2_5), some (ZI (x3_5 + 1)), some (ZI x4_22), some (ZI x5_22), some (ZI x6_22), none, none] (x3_5 + 1) dX12_sharedWith_152 rfl rfl (by decide) rfl rfl ?_
                    refine zr_goto (pc := 155) hV 5 dX12_sharedWith_155 (by decide) ?_
                    have t10 := zx_g3 hσ
                    refine zr_sub (pc := 5) hV [some (ZR 0), some (ZI o), some (ZI x2_5), some (ZI (x3_5 + 1)), none, none, none, none, none] (⟨rfl, rfl, rfl, rfl, trivial⟩) ?_
                    exact ih5 x2_5 (x3_5 + 1) (by omega) (by omega) (if hb : x5_22 = 1 then zt_sw_b hi5_0 (by rw [← zcb]; omega) else zt_sw_n hi5_0 (by rw [zb0]; exact hi22_1.2 (by omega))) (by omega) (by omega)
                  · show V 140 [some (ZR 0), some (ZI o), some (ZI x2_5), some (ZI x3_5), some (ZI x4_22), some (ZI x5_22), some (ZI x6_22), none, none] [] 41 σ
                    refine zr_bipush (pc := 140) hV 32 dX12_sharedWith_140 (by decide) ?_
                    refine zr_iload (pc := 142) hV dX12_sharedWith_142 rfl ?_
                    refine zr_imul (pc := 144) hV dX12_sharedWith_144 ?_
                    refine zr_iload_n (pc := 145) hV dX12_sharedWith_145 rfl rfl ?_
                    refine zr_iadd (pc := 146) hV dX12_sharedWith_146 ?_
                    refine zr_goto (pc := 147) hV 151 dX12_sharedWith_147 (by decide) ?_
                    show V 151 [some (ZR 0), some (ZI o), some (ZI x2_5), some (ZI x3_5), some (ZI x4_22), some (ZI x5_22), some (ZI x6_22), none, none] [ZI ((32 * x4_22) + x3_5)] 41 σ
                    refine zr_istore_n (pc := 151) hV [some (ZR 0), some (ZI o), some (ZI ((32 * x4_22) + x3_5)), some (ZI x3_5), some (ZI x4_22), some (ZI x5_22), some (ZI x6_22), none, none] dX12_sharedWith_151 rfl (by decide) rfl rfl ?_
                    refine zr_iinc (pc := 152) hV [some (ZR 0), some (ZI o), some (ZI ((32 * x4_22) + x3_5)), some (ZI (x3_5 + 1)), some (ZI x4_22), some (ZI x5_22), some (ZI x6_22), none, none] (x3_5 + 1) dX12_sharedWith_152 rfl rfl (by decide) rfl rfl ?_
                    refine zr_goto (pc := 155) hV 5 dX12_sharedWith_155 (by decide) ?_
                    have t11 := zx_g3 hσ
                    refine zr_sub (pc := 5) hV [some (ZR 0), some (ZI o), some (ZI ((32 * x4_22) + x3_5)), some (ZI (x3_5 + 1)), none, none, none, none, none] (⟨rfl, rfl, rfl, rfl, trivial⟩) ?_
                    exact ih5 ((32 * x4_22) + x3_5) (x3_5 + 1) (by omega) (by omega) (by have q := zt_sw_a (by omega) hi5_0 (by rw [zb0]; exact hi22_1.1 (by omega)) (by rw [← zcb]; omega); rw [← zcb] at q; exact q) (by omega) (by omega)
            · show V 31 [some (ZR 0), some (ZI o), some (ZI x2_5), some (ZI x3_5), some (ZI x4_22), some (ZI x5_22), some (ZI x6_22), none, none] [] 41 σ
              have zL1 : zt_L σ x3_5 x6_22 = σ 2 (12 * x3_5 + x6_22) := rfl
              have zL2 : zt_L σ o x6_22 = σ 2 (12 * o + x6_22) := rfl
              have zr := zt_cb_r (zt_L σ x3_5) (zt_L σ o) x6_22
              have zle := zx_p2_le (m := x6_22) (n := 11) (by omega)
              have ze : zx_p2 11 = 2048 := rfl
              refine zr_aload_n (pc := 31) hV dX12_sharedWith_31 rfl rfl ?_
              refine zr_getR (pc := 32) hV 5 2 dX12_sharedWith_32 fX12_23 rfl rfl rfl (by decide) (zx_g5 hσ) (by omega) ?_
              refine zr_bipush (pc := 35) hV 12 dX12_sharedWith_35 (by decide) ?_
              refine zr_iload_n (pc := 37) hV dX12_sharedWith_37 rfl rfl ?_
              refine zr_imul (pc := 38) hV dX12_sharedWith_38 ?_
              refine zr_iload (pc := 39) hV dX12_sharedWith_39 rfl ?_
              refine zr_iadd (pc := 41) hV dX12_sharedWith_41 ?_
              refine zr_iald (pc := 42) hV dX12_sharedWith_42 rfl (by decide) rfl (by omega) ?_
              have t12 := zx_ga2 hσ ((12 * o) + x6_22)
              refine zr_istore (pc := 43) hV [some (ZR 0), some (ZI o), some (ZI x2_5), some (ZI x3_5), some (ZI x4_22), some (ZI x5_22), some (ZI x6_22), some (ZI (σ 2 ((12 * o) + x6_22))), none] dX12_sharedWith_43 (by decide) rfl rfl ?_
              refine zr_aload_n (pc := 45) hV dX12_sharedWith_45 rfl rfl ?_
              refine zr_getR (pc := 46) hV 5 2 dX12_sharedWith_46 fX12_23 rfl rfl rfl (by decide) (zx_g5 hσ) (by omega) ?_
              refine zr_bipush (pc := 49) hV 12 dX12_sharedWith_49 (by decide) ?_
              refine zr_iload_n (pc := 51) hV dX12_sharedWith_51 rfl rfl ?_
              refine zr_imul (pc := 52) hV dX12_sharedWith_52 ?_
              refine zr_iload (pc := 53) hV dX12_sharedWith_53 rfl ?_
              refine zr_iadd (pc := 55) hV dX12_sharedWith_55 ?_
              refine zr_iald (pc := 56) hV dX12_sharedWith_56 rfl (by decide) rfl (by omega) ?_
              have t13 := zx_ga2 hσ ((12 * x3_5) + x6_22)
              refine zr_istore (pc := 57) hV [some (ZR 0), some (ZI o), some (ZI x2_5), some (ZI x3_5), some (ZI x4_22), some (ZI x5_22), some (ZI x6_22), some (ZI (σ 2 ((12 * o) + x6_22))), some (ZI (σ 2 ((12 * x3_5) + x6_22)))] dX12_sharedWith_57 (by decide) rfl rfl ?_
              refine zr_iload (pc := 59) hV dX12_sharedWith_59 rfl ?_
              refine zr_if_eq (pc := 61) hV 87 dX12_sharedWith_61 (by decide) (by omega) (fun c14 => ?_) (fun c14 => ?_)
              · show V 87 [some (ZR 0), some (ZI o), some (ZI x2_5), some (ZI x3_5), some (ZI x4_22), some (ZI x5_22), some (ZI x6_22), some (ZI (σ 2 ((12 * o) + x6_22))), some (ZI (σ 2 ((12 * x3_5) + x6_22)))] [] 41 σ
                refine zr_iconst (pc := 87) hV 0 dX12_sharedWith_87 rfl ?_
                show V 88 [some (ZR 0), some (ZI o), some (ZI x2_5), some (ZI x3_5), some (ZI x4_22), some (ZI x5_22), some (ZI x6_22), some (ZI (σ 2 ((12 * o) + x6_22))), some (ZI (σ 2 ((12 * x3_5) + x6_22)))] [ZI 0] 41 σ
                refine zr_istore (pc := 88) hV [some (ZR 0), some (ZI o), some (ZI x2_5), some (ZI x3_5), some (ZI x4_22), some (ZI 0), some (ZI x6_22), some (ZI (σ 2 ((12 * o) + x6_22))), some (ZI (σ 2 ((12 * x3_5) + x6_22)))] dX12_sharedWith_88 (by decide) rfl rfl ?_
                refine zr_iconst (pc := 90) hV 2 dX12_sharedWith_90 rfl ?_
                refine zr_iload (pc := 91) hV dX12_sharedWith_91 rfl ?_
                refine zr_imul (pc := 93) hV dX12_sharedWith_93 ?_
                refine zr_iload (pc := 94) hV dX12_sharedWith_94 rfl ?_
                refine zr_iconst (pc := 96) hV 1 dX12_sharedWith_96 rfl ?_
                refine zr_icmp_eq (pc := 97) hV 106 dX12_sharedWith_97 (by decide) (by omega) ⟨by decide, by decide⟩ (fun c15 => ?_) (fun c15 => ?_)
                · show V 106 [some (ZR 0), some (ZI o), some (ZI x2_5), some (ZI x3_5), some (ZI x4_22), some (ZI 0), some (ZI x6_22), some (ZI (σ 2 ((12 * o) + x6_22))), some (ZI (σ 2 ((12 * x3_5) + x6_22)))] [ZI (2 * x4_22)] 41 σ
                  refine zr_iconst (pc := 106) hV 1 dX12_sharedWith_106 rfl ?_
                  refine zr_goto (pc := 107) hV 111 dX12_sharedWith_107 (by decide) ?_
                  show V 111 [some (ZR 0), some (ZI o), some (ZI x2_5), some (ZI x3_5), some (ZI x4_22), some (ZI 0), some (ZI x6_22), some (ZI (σ 2 ((12 * o) + x6_22))), some (ZI (σ 2 ((12 * x3_5) + x6_22)))] [ZI 1, ZI (2 * x4_22)] 41 σ
                  refine zr_iadd (pc := 111) hV dX12_sharedWith_111 ?_
                  refine zr_istore (pc := 112) hV [some (ZR 0), some (ZI o), some (ZI x2_5), some (ZI x3_5), some (ZI ((2 * x4_22) + 1)), some (ZI 0), some (ZI x6_22), some (ZI (σ 2 ((12 * o) + x6_22))), some (ZI (σ 2 ((12 * x3_5) + x6_22)))] dX12_sharedWith_112 (by decide) rfl rfl ?_
                  refine zr_iinc (pc := 114) hV [some (ZR 0), some (ZI o), some (ZI x2_5), some (ZI x3_5), some (ZI ((2 * x4_22) + 1)), some (ZI 0), some (ZI (x6_22 + 1)), some (ZI (σ 2 ((12 * o) + x6_22))), some (ZI (σ 2 ((12 * x3_5) + x6_22)))] (x6_22 + 1) dX12_sharedWith_114 rfl rfl (by decide) rfl rfl ?_
                  refine zr_goto (pc := 117) hV 22 dX12_sharedWith_117 (by decide) ?_
                  have t16 := zx_g2 hσ
                  refine zr_sub (pc := 22) hV [some (ZR 0), some (ZI o), some (ZI x2_5), some (ZI x3_5), some (ZI ((2 * x4_22) + 1)), some (ZI 0), some (ZI (x6_22 + 1)), none, none] (⟨rfl, rfl, rfl, rfl, rfl, rfl, rfl, trivial⟩) ?_
                  exact ih22 ((2 * x4_22) + 1) 0 (x6_22 + 1) (by omega) (by omega) (by omega) (by rw [zt_cb_y (by omega) (by omega), ← hi22_0]) ⟨fun h => absurd h (by omega), fun _ => by first | exact zt_co_n2 (by omega) (by omega) | exact zt_co_n1 (hi22_1.2 (by omega))⟩ (by omega) (by omega)
                · show V 100 [some (ZR 0), some (ZI o), some (ZI x2_5), some (ZI x3_5), some (ZI x4_22), some (ZI 0), some (ZI x6_22), some (ZI (σ 2 ((12 * o) + x6_22))), some (ZI (σ 2 ((12 * x3_5) + x6_22)))] [ZI (2 * x4_22)] 41 σ
                  refine zr_iload (pc := 100) hV dX12_sharedWith_100 rfl ?_
                  refine zr_iconst (pc := 102) hV 1 dX12_sharedWith_102 rfl ?_
                  refine zr_icmp_ne (pc := 103) hV 110 dX12_sharedWith_103 (by decide) (by omega) ⟨by decide, by decide⟩ (fun c17 => ?_) (fun c17 => ?_)
                  · show V 110 [some (ZR 0), some (ZI o), some (ZI x2_5), some (ZI x3_5), some (ZI x4_22), some (ZI 0), some (ZI x6_22), some (ZI (σ 2 ((12 * o) + x6_22))), some (ZI (σ 2 ((12 * x3_5) + x6_22)))] [ZI (2 * x4_22)] 41 σ
                    refine zr_iconst (pc := 110) hV 0 dX12_sharedWith_110 rfl ?_
                    show V 111 [some (ZR 0), some (ZI o), some (ZI x2_5), some (ZI x3_5), some (ZI x4_22), some (ZI 0), some (ZI x6_22), some (ZI (σ 2 ((12 * o) + x6_22))), some (ZI (σ 2 ((12 * x3_5) + x6_22)))] [ZI 0, ZI (2 * x4_22)] 41 σ
                    refine zr_iadd (pc := 111) hV dX12_sharedWith_111 ?_
                    refine zr_istore (pc := 112) hV [some (ZR 0), some (ZI o), some (ZI x2_5), some (ZI x3_5), some (ZI ((2 * x4_22) + 0)), some (ZI 0), some (ZI x6_22), some (ZI (σ 2 ((12 * o) + x6_22))), some (ZI (σ 2 ((12 * x3_5) + x6_22)))] dX12_sharedWith_112 (by decide) rfl rfl ?_
                    refine zr_iinc (pc := 114) hV [some (ZR 0), some (ZI o), some (ZI x2_5), some (ZI x3_5), some (ZI ((2 * x4_22) + 0)), some (ZI 0), some (ZI (x6_22 + 1)), some (ZI (σ 2 ((12 * o) + x6_22))), some (ZI (σ 2 ((12 * x3_5) + x6_22)))] (x6_22 + 1) dX12_sharedWith_114 rfl rfl (by decide) rfl rfl ?_
                    refine zr_goto (pc := 117) hV 22 dX12_sharedWith_117 (by decide) ?_
                    have t18 := zx_g2 hσ
                    refine zr_sub (pc := 22) hV [some (ZR 0), some (ZI o), some (ZI x2_5), some (ZI x3_5), some (ZI ((2 * x4_22) + 0)), some (ZI 0), some (ZI (x6_22 + 1)), none, none] (⟨rfl, rfl, rfl, rfl, rfl, rfl, rfl, trivial⟩) ?_
                    exact ih22 ((2 * x4_22) + 0) 0 (x6_22 + 1) (by omega) (by omega) (by omega) (by rw [zt_cb_n (by omega) (by omega), ← hi22_0]; omega) ⟨fun h => absurd h (by omega), fun _ => by first | exact zt_co_n2 (by omega) (by omega) | exact zt_co_n1 (hi22_1.2 (by omega))⟩ (by omega) (by omega)
                  · show V 106 [some (ZR 0), some (ZI o), some (ZI x2_5), some (ZI x3_5), some (ZI x4_22), some (ZI 0), some (ZI x6_22), some (ZI (σ 2 ((12 * o) + x6_22))), some (ZI (σ 2 ((12 * x3_5) + x6_22)))] [ZI (2 * x4_22)] 41 σ
                    refine zr_iconst (pc := 106) hV 1 dX12_sharedWith_106 rfl ?_
                    refine zr_goto (pc := 107) hV 111 dX12_sharedWith_107 (by decide) ?_
                    show V 111 [some (ZR 0), some (ZI o), some (ZI x2_5), some (ZI x3_5), some (ZI x4_22), some (ZI 0), some (ZI x6_22), some (ZI (σ 2 ((12 * o) + x6_22))), some (ZI (σ 2 ((12 * x3_5) + x6_22)))] [ZI 1, ZI (2 * x4_22)] 41 σ
                    refine zr_iadd (pc := 111) hV dX12_sharedWith_111 ?_
                    refine zr_istore (pc := 112) hV [some (ZR 0), some (ZI o), some (ZI x2_5), some (ZI x3_5), some (ZI ((2 * x4_22) + 1)), some (ZI 0), some (ZI x6_22), some (ZI (σ 2 ((12 * o) + x6_22))), some (ZI (σ 2 ((12 * x3_5) + x6_22)))] dX12_sharedWith_112 (by decide) rfl rfl ?_
                    refine zr_iinc (pc := 114) hV [some (ZR 0), some (ZI o), some (ZI x2_5), some (ZI x3_5), some (ZI ((2 * x4_22) + 1)), some (ZI 0), some (ZI (x6_22 + 1)), some (ZI (σ 2 ((12 * o) + x6_22))), some (ZI (σ 2 ((12 * x3_5) + x6_22)))] (x6_22 + 1) dX12_sharedWith_114 rfl rfl (by decide) rfl rfl ?_
                    refine zr_goto (pc := 117) hV 22 dX12_sharedWith_117 (by decide) ?_
                    have t19 := zx_g2 hσ
                    refine zr_sub (pc := 22) hV [some (ZR 0), some (ZI o), some (ZI x2_5), some (ZI x3_5), some (ZI ((2 * x4_22) + 1)), some (ZI 0), some (ZI (x6_22 + 1)), none, none] (⟨rfl, rfl, rfl, rfl, rfl, rfl, rfl, trivial⟩) ?_
                    exact ih22 ((2 * x4_22) + 1) 0 (x6_22 + 1) (by omega) (by omega) (by omega) (by rw [zt_cb_y (by omega) (by omega), ← hi22_0]) ⟨fun h => absurd h (by omega), fun _ => by first | exact zt_co_n2 (by omega) (by omega) | exact zt_co_n1 (hi22_1.2 (by omega))⟩ (by omega) (by omega)
              · show V 64 [some (ZR 0), some (ZI o), some (ZI x2_5), some (ZI x3_5), some (ZI x4_22), some (ZI x5_22), some (ZI x6_22), some (ZI (σ 2 ((12 * o) + x6_22))), some (ZI (σ 2 ((12 * x3_5) + x6_22)))] [] 41 σ
                refine zr_iload (pc := 64) hV dX12_sharedWith_64 rfl ?_
                refine zr_iconst (pc := 66) hV 1 dX12_sharedWith_66 rfl ?_
                refine zr_icmp_gt (pc := 67) hV 83 dX12_sharedWith_67 (by decide) (by omega) ⟨by decide, by decide⟩ (fun c20 => ?_) (fun c20 => ?_)
                · show V 83 [some (ZR 0), some (ZI o), some (ZI x2_5), some (ZI x3_5), some (ZI x4_22), some (ZI x5_22), some (ZI x6_22), some (ZI (σ 2 ((12 * o) + x6_22))), some (ZI (σ 2 ((12 * x3_5) + x6_22)))] [] 41 σ
                  refine zr_iconst (pc := 83) hV 1 dX12_sharedWith_83 rfl ?_
                  refine zr_goto (pc := 84) hV 88 dX12_sharedWith_84 (by decide) ?_
                  show V 88 [some (ZR 0), some (ZI o), some (ZI x2_5), some (ZI x3_5), some (ZI x4_22), some (ZI x5_22), some (ZI x6_22), some (ZI (σ 2 ((12 * o) + x6_22))), some (ZI (σ 2 ((12 * x3_5) + x6_22)))] [ZI 1] 41 σ
                  refine zr_istore (pc := 88) hV [some (ZR 0), some (ZI o), some (ZI x2_5), some (ZI x3_5), some (ZI x4_22), some (ZI 1), some (ZI x6_22), some (ZI (σ 2 ((12 * o) + x6_22))), some (ZI (σ 2 ((12 * x3_5) + x6_22)))] dX12_sharedWith_88 (by decide) rfl rfl ?_
                  refine zr_iconst (pc := 90) hV 2 dX12_sharedWith_90 rfl ?_
                  refine zr_iload (pc := 91) hV dX12_sharedWith_91 rfl ?_
                  refine zr_imul (pc := 93) hV dX12_sharedWith_93 ?_
                  refine zr_iload (pc := 94) hV dX12_sharedWith_94 rfl ?_
                  refine zr_iconst (pc := 96) hV 1 dX12_sharedWith_96 rfl ?_
                  refine zr_icmp_eq (pc := 97) hV 106 dX12_sharedWith_97 (by decide) (by omega) ⟨by decide, by decide⟩ (fun c21 => ?_) (fun c21 => ?_)
                  · exfalso; omega
                  · show V 100 [some (ZR 0), some (ZI o), some (ZI x2_5), some (ZI x3_5), some (ZI x4_22), some (ZI 1), some (ZI x6_22), some (ZI (σ 2 ((12 * o) + x6_22))), some (ZI (σ 2 ((12 * x3_5) + x6_22)))] [ZI (2 * x4_22)] 41 σ
                    refine zr_iload (pc := 100) hV dX12_sharedWith_100 rfl ?_
                    refine zr_iconst (pc := 102) hV 1 dX12_sharedWith_102 rfl ?_
                    refine zr_icmp_ne (pc := 103) hV 110 dX12_sharedWith_103 (by decide) (by omega) ⟨by decide, by decide⟩ (fun c22 => ?_) (fun c22 => ?_)
                    · show V 110 [some (ZR 0), some (ZI o), some (ZI x2_5), some (ZI x3_5), some (ZI x4_22), some (ZI 1), some (ZI x6_22), some (ZI (σ 2 ((12 * o) + x6_22))), some (ZI (σ 2 ((12 * x3_5) + x6_22)))] [ZI (2 * x4_22)] 41 σ
                      refine zr_iconst (pc := 110) hV 0 dX12_sharedWith_110 rfl ?_
                      show V 111 [some (ZR 0), some (ZI o), some (ZI x2_5), some (ZI x3_5), some (ZI x4_22), some (ZI 1), some (ZI x6_22), some (ZI (σ 2 ((12 * o) + x6_22))), some (ZI (σ 2 ((12 * x3_5) + x6_22)))] [ZI 0, ZI (2 * x4_22)] 41 σ
                      refine zr_iadd (pc := 111) hV dX12_sharedWith_111 ?_
                      refine zr_istore (pc := 112) hV [some (ZR 0), some (ZI o), some (ZI x2_5), some (ZI x3_5), some (ZI ((2 * x4_22) + 0)), some (ZI 1), some (ZI x6_22), some (ZI (σ 2 ((12 * o) + x6_22))), some (ZI (σ 2 ((12 * x3_5) + x6_22)))] dX12_sharedWith_112 (by decide) rfl rfl ?_
                      refine zr_iinc (pc := 114) hV [some (ZR 0), some (ZI o), some (ZI x2_5), some (ZI x3_5), some (ZI ((2 * x4_22) + 0)), some (ZI 1), some (ZI (x6_22 + 1)), some (ZI (σ 2 ((12 * o) + x6_22))), some (ZI (σ 2 ((12 * x3_5) + x6_22)))] (x6_22 + 1) dX12_sharedWith_114 rfl rfl (by decide) rfl rfl ?_
                      refine zr_goto (pc := 117) hV 22 dX12_sharedWith_117 (by decide) ?_
                      have t23 := zx_g2 hσ
                      refine zr_sub (pc := 22) hV [some (ZR 0), some (ZI o), some (ZI x2_5), some (ZI x3_5), some (ZI ((2 * x4_22) + 0)), some (ZI 1), some (ZI (x6_22 + 1)), none, none] (⟨rfl, rfl, rfl, rfl, rfl, rfl, rfl, trivial⟩) ?_
                      exact ih22 ((2 * x4_22) + 0) 1 (x6_22 + 1) (by omega) (by omega) (by omega) (by rw [zt_cb_n (by omega) (by omega), ← hi22_0]; omega) ⟨fun _ => zt_co_s (hi22_1.1 (by omega)) (by omega), fun h => absurd h (by omega)⟩ (by omega) (by omega)
                    · show V 106 [some (ZR 0), some (ZI o), some (ZI x2_5), some (ZI x3_5), some (ZI x4_22), some (ZI 1), some (ZI x6_22), some (ZI (σ 2 ((12 * o) + x6_22))), some (ZI (σ 2 ((12 * x3_5) + x6_22)))] [ZI (2 * x4_22)] 41 σ
                      refine zr_iconst (pc := 106) hV 1 dX12_sharedWith_106 rfl ?_
                      refine zr_goto (pc := 107) hV 111 dX12_sharedWith_107 (by decide) ?_
                      show V 111 [some (ZR 0), some (ZI o), some (ZI x2_5), some (ZI x3_5), some (ZI x4_22), some (ZI 1), some (ZI x6_22), some (ZI (σ 2 ((12 * o) + x6_22))), some (ZI (σ 2 ((12 * x3_5) + x6_22)))] [ZI 1, ZI (2 * x4_22)] 41 σ
                      refine zr_iadd (pc := 111) hV dX12_sharedWith_111 ?_
                      refine zr_istore (pc := 112) hV [some (ZR 0), some (ZI o), some (ZI x2_5), some (ZI x3_5), some (ZI ((2 * x4_22) + 1)), some (ZI 1), some (ZI x6_22), some (ZI (σ 2 ((12 * o) + x6_22))), some (ZI (σ 2 ((12 * x3_5) + x6_22)))] dX12_sharedWith_112 (by decide) rfl rfl ?_
                      refine zr_iinc (pc := 114) hV [some (ZR 0), some (ZI o), some (ZI x2_5), some (ZI x3_5), some (ZI ((2 * x4_22) + 1)), some (ZI 1), some (ZI (x6_22 + 1)), some (ZI (σ 2 ((12 * o) + x6_22))), some (ZI (σ 2 ((12 * x3_5) + x6_22)))] (x6_22 + 1) dX12_sharedWith_114 rfl rfl (by decide) rfl rfl ?_
                      refine zr_goto (pc := 117) hV 22 dX12_sharedWith_117 (by decide) ?_
                      have t24 := zx_g2 hσ
                      refine zr_sub (pc := 22) hV [some (ZR 0), some (ZI o), some (ZI x2_5), some (ZI x3_5), some (ZI ((2 * x4_22) + 1)), some (ZI 1), some (ZI (x6_22 + 1)), none, none] (⟨rfl, rfl, rfl, rfl, rfl, rfl, rfl, trivial⟩) ?_
                      exact ih22 ((2 * x4_22) + 1) 1 (x6_22 + 1) (by omega) (by omega) (by omega) (by rw [zt_cb_y (by omega) (by omega), ← hi22_0]) ⟨fun _ => zt_co_s (hi22_1.1 (by omega)) (by omega), fun h => absurd h (by omega)⟩ (by omega) (by omega)
                · show V 70 [some (ZR 0), some (ZI o), some (ZI x2_5), some (ZI x3_5), some (ZI x4_22), some (ZI x5_22), some (ZI x6_22), some (ZI (σ 2 ((12 * o) + x6_22))), some (ZI (σ 2 ((12 * x3_5) + x6_22)))] [] 41 σ
                  refine zr_iload (pc := 70) hV dX12_sharedWith_70 rfl ?_
                  refine zr_iconst (pc := 72) hV 1 dX12_sharedWith_72 rfl ?_
                  refine zr_icmp_gt (pc := 73) hV 83 dX12_sharedWith_73 (by decide) (by omega) ⟨by decide, by decide⟩ (fun c25 => ?_) (fun c25 => ?_)
                  · show V 83 [some (ZR 0), some (ZI o), some (ZI x2_5), some (ZI x3_5), some (ZI x4_22), some (ZI x5_22), some (ZI x6_22), some (ZI (σ 2 ((12 * o) + x6_22))), some (ZI (σ 2 ((12 * x3_5) + x6_22)))] [] 41 σ
                    refine zr_iconst (pc := 83) hV 1 dX12_sharedWith_83 rfl ?_
                    refine zr_goto (pc := 84) hV 88 dX12_sharedWith_84 (by decide) ?_
                    show V 88 [some (ZR 0), some (ZI o), some (ZI x2_5), some (ZI x3_5), some (ZI x4_22), some (ZI x5_22), some (ZI x6_22), some (ZI (σ 2 ((12 * o) + x6_22))), some (ZI (σ 2 ((12 * x3_5) + x6_22)))] [ZI 1] 41 σ
                    refine zr_istore (pc := 88) hV [some (ZR 0), some (ZI o), some (ZI x2_5), some (ZI x3_5), some (ZI x4_22), some (ZI 1), some (ZI x6_22), some (ZI (σ 2 ((12 * o) + x6_22))), some (ZI (σ 2 ((12 * x3_5) + x6_22)))] dX12_sharedWith_88 (by decide) rfl rfl ?_
                    refine zr_iconst (pc := 90) hV 2 dX12_sharedWith_90 rfl ?_
                    refine zr_iload (pc := 91) hV dX12_sharedWith_91 rfl ?_
                    refine zr_imul (pc := 93) hV dX12_sharedWith_93 ?_
                    refine zr_iload (pc := 94) hV dX12_sharedWith_94 rfl ?_
                    refine zr_iconst (pc := 96) hV 1 dX12_sharedWith_96 rfl ?_
                    refine zr_icmp_eq (pc := 97) hV 106 dX12_sharedWith_97 (by decide) (by omega) ⟨by decide, by decide⟩ (fun c26 => ?_) (fun c26 => ?_)
                    · show V 106 [some (ZR 0), some (ZI o), some (ZI x2_5), some (ZI x3_5), some (ZI x4_22), some (ZI 1), some (ZI x6_22), some (ZI (σ 2 ((12 * o) + x6_22))), some (ZI (σ 2 ((12 * x3_5) + x6_22)))] [ZI (2 * x4_22)] 41 σ
                      refine zr_iconst (pc := 106) hV 1 dX12_sharedWith_106 rfl ?_
                      refine zr_goto (pc := 107) hV 111 dX12_sharedWith_107 (by decide) ?_
                      show V 111 [some (ZR 0), some (ZI o), some (ZI x2_5), some (ZI x3_5), some (ZI x4_22), some (ZI 1), some (ZI x6_22), some (ZI (σ 2 ((12 * o) + x6_22))), some (ZI (σ 2 ((12 * x3_5) + x6_22)))] [ZI 1, ZI (2 * x4_22)] 41 σ
                      refine zr_iadd (pc := 111) hV dX12_sharedWith_111 ?_
                      refine zr_istore (pc := 112) hV [some (ZR 0), some (ZI o), some (ZI x2_5), some (ZI x3_5), some (ZI ((2 * x4_22) + 1)), some (ZI 1), some (ZI x6_22), some (ZI (σ 2 ((12 * o) + x6_22))), some (ZI (σ 2 ((12 * x3_5) + x6_22)))] dX12_sharedWith_112 (by decide) rfl rfl ?_
                      refine zr_iinc (pc := 114) hV [some (ZR 0), some (ZI o), some (ZI x2_5), some (ZI x3_5), some (ZI ((2 * x4_22) + 1)), some (ZI 1), some (ZI (x6_22 + 1)), some (ZI (σ 2 ((12 * o) + x6_22))), some (ZI (σ 2 ((12 * x3_5) + x6_22)))] (x6_22 + 1) dX12_sharedWith_114 rfl rfl (by decide) rfl rfl ?_
                      refine zr_goto (pc := 117) hV 22 dX12_sharedWith_117 (by decide) ?_
                      have t27 := zx_g2 hσ
                      refine zr_sub (pc := 22) hV [some (ZR 0), some (ZI o), some (ZI x2_5), some (ZI x3_5), some (ZI ((2 * x4_22) + 1)), some (ZI 1), some (ZI (x6_22 + 1)), none, none] (⟨rfl, rfl, rfl, rfl, rfl, rfl, rfl, trivial⟩) ?_
                      exact ih22 ((2 * x4_22) + 1) 1 (x6_22 + 1) (by omega) (by omega) (by omega) (by rw [zt_cb_y (by omega) (by omega), ← hi22_0]) ⟨fun _ => zt_co_s (hi22_1.1 (by omega)) (by omega), fun h => absurd h (by omega)⟩ (by omega) (by omega)
                    · show V 100 [some (ZR 0), some (ZI o), some (ZI x2_5), some (ZI x3_5), some (ZI x4_22), some (ZI 1), some (ZI x6_22), some (ZI (σ 2 ((12 * o) + x6_22))), some (ZI (σ 2 ((12 * x3_5) + x6_22)))] [ZI (2 * x4_22)] 41 σ
                      refine zr_iload (pc := 100) hV dX12_sharedWith_100 rfl ?_
                      refine zr_iconst (pc := 102) hV 1 dX12_sharedWith_102 rfl ?_
                      refine zr_icmp_ne (pc := 103) hV 110 dX12_sharedWith_103 (by decide) (by omega) ⟨by decide, by decide⟩ (fun c28 => ?_) (fun c28 => ?_)
                      · show V 110 [some (ZR 0), some (ZI o), some (ZI x2_5), some (ZI x3_5), some (ZI x4_22), some (ZI 1), some (ZI x6_22), some (ZI (σ 2 ((12 * o) + x6_22))), some (ZI (σ 2 ((12 * x3_5) + x6_22)))] [ZI (2 * x4_22)] 41 σ
                        refine zr_iconst (pc := 110) hV 0 dX12_sharedWith_110 rfl ?_
                        show V 111 [some (ZR 0), some (ZI o), some (ZI x2_5), some (ZI x3_5), some (ZI x4_22), some (ZI 1), some (ZI x6_22), some (ZI (σ 2 ((12 * o) + x6_22))), some (ZI (σ 2 ((12 * x3_5) + x6_22)))] [ZI 0, ZI (2 * x4_22)] 41 σ
                        refine zr_iadd (pc := 111) hV dX12_sharedWith_111 ?_
                        refine zr_istore (pc := 112) hV [some (ZR 0), some (ZI o), some (ZI x2_5), some (ZI x3_5), some (ZI ((2 * x4_22) + 0)), some (ZI 1), some (ZI x6_22), some (ZI (σ 2 ((12 * o) + x6_22))), some (ZI (σ 2 ((12 * x3_5) + x6_22)))] dX12_sharedWith_112 (by decide) rfl rfl ?_
                        refine zr_iinc (pc := 114) hV [some (ZR 0), some (ZI o), some (ZI x2_5), some (ZI x3_5), some (ZI ((2 * x4_22) + 0)), some (ZI 1), some (ZI (x6_22 + 1)), some (ZI (σ 2 ((12 * o) + x6_22))), some (ZI (σ 2 ((12 * x3_5) + x6_22)))] (x6_22 + 1) dX12_sharedWith_114 rfl rfl (by decide) rfl rfl ?_
                        refine zr_goto (pc := 117) hV 22 dX12_sharedWith_117 (by decide) ?_
                        have t29 := zx_g2 hσ
                        refine zr_sub (pc := 22) hV [some (ZR 0), some (ZI o), some (ZI x2_5), some (ZI x3_5), some (ZI ((2 * x4_22) + 0)), some (ZI 1), some (ZI (x6_22 + 1)), none, none] (⟨rfl, rfl, rfl, rfl, rfl, rfl, rfl, trivial⟩) ?_
                        exact ih22 ((2 * x4_22) + 0) 1 (x6_22 + 1) (by omega) (by omega) (by omega) (by rw [zt_cb_n (by omega) (by omega), ← hi22_0]; omega) ⟨fun _ => zt_co_s (hi22_1.1 (by omega)) (by omega), fun h => absurd h (by omega)⟩ (by omega) (by omega)
                      · exfalso; omega
                  · show V 76 [some (ZR 0), some (ZI o), some (ZI x2_5), some (ZI x3_5), some (ZI x4_22), some (ZI x5_22), some (ZI x6_22), some (ZI (σ 2 ((12 * o) + x6_22))), some (ZI (σ 2 ((12 * x3_5) + x6_22)))] [] 41 σ
                    refine zr_iload (pc := 76) hV dX12_sharedWith_76 rfl ?_
                    refine zr_iload (pc := 78) hV dX12_sharedWith_78 rfl ?_
                    refine zr_icmp_ne (pc := 80) hV 87 dX12_sharedWith_80 (by decide) (by omega) (by omega) (fun c30 => ?_) (fun c30 => ?_)
                    · show V 87 [some (ZR 0), some (ZI o), some (ZI x2_5), some (ZI x3_5), some (ZI x4_22), some (ZI x5_22), some (ZI x6_22), some (ZI (σ 2 ((12 * o) + x6_22))), some (ZI (σ 2 ((12 * x3_5) + x6_22)))] [] 41 σ
                      refine zr_iconst (pc := 87) hV 0 dX12_sharedWith_87 rfl ?_
                      show V 88 [some (ZR 0), some (ZI o), some (ZI x2_5), some (ZI x3_5), some (ZI x4_22), some (ZI x5_22), some (ZI x6_22), some (ZI (σ 2 ((12 * o) + x6_22))), some (ZI (σ 2 ((12 * x3_5) + x6_22)))] [ZI 0] 41 σ
                      refine zr_istore (pc := 88) hV [some (ZR 0), some (ZI o), some (ZI x2_5), some (ZI x3_5), some (ZI x4_22), some (ZI 0), some (ZI x6_22), some (ZI (σ 2 ((12 * o) + x6_22))), some (ZI (σ 2 ((12 * x3_5) + x6_22)))] dX12_sharedWith_88 (by decide) rfl rfl ?_
                      refine zr_iconst (pc := 90) hV 2 dX12_sharedWith_90 rfl ?_
                      refine zr_iload (pc := 91) hV dX12_sharedWith_91 rfl ?_
                      refine zr_imul (pc := 93) hV dX12_sharedWith_93 ?_
                      refine zr_iload (pc := 94) hV dX12_sharedWith_94 rfl ?_
                      refine zr_iconst (pc := 96) hV 1 dX12_sharedWith_96 rfl ?_
                      refine zr_icmp_eq (pc := 97) hV 106 dX12_sharedWith_97 (by decide) (by omega) ⟨by decide, by decide⟩ (fun c31 => ?_) (fun c31 => ?_)
                      · show V 106 [some (ZR 0), some (ZI o), some (ZI x2_5), some (ZI x3_5), some (ZI x4_22), some (ZI 0), some (ZI x6_22), some (ZI (σ 2 ((12 * o) + x6_22))), some (ZI (σ 2 ((12 * x3_5) + x6_22)))] [ZI (2 * x4_22)] 41 σ
                        refine zr_iconst (pc := 106) hV 1 dX12_sharedWith_106 rfl ?_
                        refine zr_goto (pc := 107) hV 111 dX12_sharedWith_107 (by decide) ?_
                        show V 111 [some (ZR 0), some (ZI o), some (ZI x2_5), some (ZI x3_5), some (ZI x4_22), some (ZI 0), some (ZI x6_22), some (ZI (σ 2 ((12 * o) + x6_22))), some (ZI (σ 2 ((12 * x3_5) + x6_22)))] [ZI 1, ZI (2 * x4_22)] 41 σ
                        refine zr_iadd (pc := 111) hV dX12_sharedWith_111 ?_
                        refine zr_istore (pc := 112) hV [some (ZR 0), some (ZI o), some (ZI x2_5), some (ZI x3_5), some (ZI ((2 * x4_22) + 1)), some (ZI 0), some (ZI x6_22), some (ZI (σ 2 ((12 * o) + x6_22))), some (ZI (σ 2 ((12 * x3_5) + x6_22)))] dX12_sharedWith_112 (by decide) rfl rfl ?_
                        refine zr_iinc (pc := 114) hV [some (ZR 0), some (ZI o), some (ZI x2_5), some (ZI x3_5), some (ZI ((2 * x4_22) + 1)), some (ZI 0), some (ZI (x6_22 + 1)), some (ZI (σ 2 ((12 * o) + x6_22))), some (ZI (σ 2 ((12 * x3_5) + x6_22)))] (x6_22 + 1) dX12_sharedWith_114 rfl rfl (by decide) rfl rfl ?_
                        refine zr_goto (pc := 117) hV 22 dX12_sharedWith_117 (by decide) ?_
                        have t32 := zx_g2 hσ
                        refine zr_sub (pc := 22) hV [some (ZR 0), some (ZI o), some (ZI x2_5), some (ZI x3_5), some (ZI ((2 * x4_22) + 1)), some (ZI 0), some (ZI (x6_22 + 1)), none, none] (⟨rfl, rfl, rfl, rfl, rfl, rfl, rfl, trivial⟩) ?_
                        exact ih22 ((2 * x4_22) + 1) 0 (x6_22 + 1) (by omega) (by omega) (by omega) (by rw [zt_cb_y (by omega) (by omega), ← hi22_0]) ⟨fun h => absurd h (by omega), fun _ => by first | exact zt_co_n2 (by omega) (by omega) | exact zt_co_n1 (hi22_1.2 (by omega))⟩ (by omega) (by omega)
                      · show V 100 [some (ZR 0), some (ZI o), some (ZI x2_5), some (ZI x3_5), some (ZI x4_22), some (ZI 0), some (ZI x6_22), some (ZI (σ 2 ((12 * o) + x6_22))), some (ZI (σ 2 ((12 * x3_5) + x6_22)))] [ZI (2 * x4_22)] 41 σ
                        refine zr_iload (pc := 100) hV dX12_sharedWith_100 rfl ?_
                        refine zr_iconst (pc := 102) hV 1 dX12_sharedWith_102 rfl ?_
                        refine zr_icmp_ne (pc := 103) hV 110 dX12_sharedWith_103 (by decide) (by omega) ⟨by decide, by decide⟩ (fun c33 => ?_) (fun c33 => ?_)
                        · show V 110 [some (ZR 0), some (ZI o), some (ZI x2_5), some (ZI x3_5), some (ZI x4_22), some (ZI 0), some (ZI x6_22), some (ZI (σ 2 ((12 * o) + x6_22))), some (ZI (σ 2 ((12 * x3_5) + x6_22)))] [ZI (2 * x4_22)] 41 σ
                          refine zr_iconst (pc := 110) hV 0 dX12_sharedWith_110 rfl ?_
                          show V 111 [some (ZR 0), some (ZI o), some (ZI x2_5), some (ZI x3_5), some (ZI x4_22), some (ZI 0), some (ZI x6_22), some (ZI (σ 2 ((12 * o) + x6_22))), some (ZI (σ 2 ((12 * x3_5) + x6_22)))] [ZI 0, ZI (2 * x4_22)] 41 σ
                          refine zr_iadd (pc := 111) hV dX12_sharedWith_111 ?_
                          refine zr_istore (pc := 112) hV [some (ZR 0), some (ZI o), some (ZI x2_5), some (ZI x3_5), some (ZI ((2 * x4_22) + 0)), some (ZI 0), some (ZI x6_22), some (ZI (σ 2 ((12 * o) + x6_22))), some (ZI (σ 2 ((12 * x3_5) + x6_22)))] dX12_sharedWith_112 (by decide) rfl rfl ?_
                          refine zr_iinc (pc := 114) hV [some (ZR 0), some (ZI o), some (ZI x2_5), some (ZI x3_5), some (ZI ((2 * x4_22) + 0)), some (ZI 0), some (ZI (x6_22 + 1)), some (ZI (σ 2 ((12 * o) + x6_22))), some (ZI (σ 2 ((12 * x3_5) + x6_22)))] (x6_22 + 1) dX12_sharedWith_114 rfl rfl (by decide) rfl rfl ?_
                          refine zr_goto (pc := 117) hV 22 dX12_sharedWith_117 (by decide) ?_
                          have t34 := zx_g2 hσ
                          refine zr_sub (pc := 22) hV [some (ZR 0), some (ZI o), some (ZI x2_5), some (ZI x3_5), some (ZI ((2 * x4_22) + 0)), some (ZI 0), some (ZI (x6_22 + 1)), none, none] (⟨rfl, rfl, rfl, rfl, rfl, rfl, rfl, trivial⟩) ?_
                          exact ih22 ((2 * x4_22) + 0) 0 (x6_22 + 1) (by omega) (by omega) (by omega) (by rw [zt_cb_n (by omega) (by omega), ← hi22_0]; omega) ⟨fun h => absurd h (by omega), fun _ => by first | exact zt_co_n2 (by omega) (by omega) | exact zt_co_n1 (hi22_1.2 (by omega))⟩ (by omega) (by omega)
                        · show V 106 [some (ZR 0), some (ZI o), some (ZI x2_5), some (ZI x3_5), some (ZI x4_22), some (ZI 0), some (ZI x6_22), some (ZI (σ 2 ((12 * o) + x6_22))), some (ZI (σ 2 ((12 * x3_5) + x6_22)))] [ZI (2 * x4_22)] 41 σ
                          refine zr_iconst (pc := 106) hV 1 dX12_sharedWith_106 rfl ?_
                          refine zr_goto (pc := 107) hV 111 dX12_sharedWith_107 (by decide) ?_
                          show V 111 [some (ZR 0), some (ZI o), some (ZI x2_5), some (ZI x3_5), some (ZI x4_22), some (ZI 0), some (ZI x6_22), some (ZI (σ 2 ((12 * o) + x6_22))), some (ZI (σ 2 ((12 * x3_5) + x6_22)))] [ZI 1, ZI (2 * x4_22)] 41 σ
                          refine zr_iadd (pc := 111) hV dX12_sharedWith_111 ?_
                          refine zr_istore (pc := 112) hV [some (ZR 0), some (ZI o), some (ZI x2_5), some (ZI x3_5), some (ZI ((2 * x4_22) + 1)), some (ZI 0), some (ZI x6_22), some (ZI (σ 2 ((12 * o) + x6_22))), some (ZI (σ 2 ((12 * x3_5) + x6_22)))] dX12_sharedWith_112 (by decide) rfl rfl ?_
                          refine zr_iinc (pc := 114) hV [some (ZR 0), some (ZI o), some (ZI x2_5), some (ZI x3_5), some (ZI ((2 * x4_22) + 1)), some (ZI 0), some (ZI (x6_22 + 1)), some (ZI (σ 2 ((12 * o) + x6_22))), some (ZI (σ 2 ((12 * x3_5) + x6_22)))] (x6_22 + 1) dX12_sharedWith_114 rfl rfl (by decide) rfl rfl ?_
                          refine zr_goto (pc := 117) hV 22 dX12_sharedWith_117 (by decide) ?_
                          have t35 := zx_g2 hσ
                          refine zr_sub (pc := 22) hV [some (ZR 0), some (ZI o), some (ZI x2_5), some (ZI x3_5), some (ZI ((2 * x4_22) + 1)), some (ZI 0), some (ZI (x6_22 + 1)), none, none] (⟨rfl, rfl, rfl, rfl, rfl, rfl, rfl, trivial⟩) ?_
                          exact ih22 ((2 * x4_22) + 1) 0 (x6_22 + 1) (by omega) (by omega) (by omega) (by rw [zt_cb_y (by omega) (by omega), ← hi22_0]) ⟨fun h => absurd h (by omega), fun _ => by first | exact zt_co_n2 (by omega) (by omega) | exact zt_co_n1 (hi22_1.2 (by omega))⟩ (by omega) (by omega)
                    · show V 83 [some (ZR 0), some (ZI o), some (ZI x2_5), some (ZI x3_5), some (ZI x4_22), some (ZI x5_22), some (ZI x6_22), some (ZI (σ 2 ((12 * o) + x6_22))), some (ZI (σ 2 ((12 * x3_5) + x6_22)))] [] 41 σ
                      refine zr_iconst (pc := 83) hV 1 dX12_sharedWith_83 rfl ?_
                      refine zr_goto (pc := 84) hV 88 dX12_sharedWith_84 (by decide) ?_
                      show V 88 [some (ZR 0), some (ZI o), some (ZI x2_5), some (ZI x3_5), some (ZI x4_22), some (ZI x5_22), some (ZI x6_22), some (ZI (σ 2 ((12 * o) + x6_22))), some (ZI (σ 2 ((12 * x3_5) + x6_22)))] [ZI 1] 41 σ
                      refine zr_istore (pc := 88) hV [some (ZR 0), some (ZI o), some (ZI x2_5), some (ZI x3_5), some (ZI x4_22), some (ZI 1), some (ZI x6_22), some (ZI (σ 2 ((12 * o) + x6_22))), some (ZI (σ 2 ((12 * x3_5) + x6_22)))] dX12_sharedWith_88 (by decide) rfl rfl ?_
                      refine zr_iconst (pc := 90) hV 2 dX12_sharedWith_90 rfl ?_
                      refine zr_iload (pc := 91) hV dX12_sharedWith_91 rfl ?_
                      refine zr_imul (pc := 93) hV dX12_sharedWith_93 ?_
                      refine zr_iload (pc := 94) hV dX12_sharedWith_94 rfl ?_
                      refine zr_iconst (pc := 96) hV 1 dX12_sharedWith_96 rfl ?_
                      refine zr_icmp_eq (pc := 97) hV 106 dX12_sharedWith_97 (by decide) (by omega) ⟨by decide, by decide⟩ (fun c36 => ?_) (fun c36 => ?_)
                      · show V 106 [some (ZR 0), some (ZI o), some (ZI x2_5), some (ZI x3_5), some (ZI x4_22), some (ZI 1), some (ZI x6_22), some (ZI (σ 2 ((12 * o) + x6_22))), some (ZI (σ 2 ((12 * x3_5) + x6_22)))] [ZI (2 * x4_22)] 41 σ
                        refine zr_iconst (pc := 106) hV 1 dX12_sharedWith_106 rfl ?_
                        refine zr_goto (pc := 107) hV 111 dX12_sharedWith_107 (by decide) ?_
                        show V 111 [some (ZR 0), some (ZI o), some (ZI x2_5), some (ZI x3_5), some (ZI x4_22), some (ZI 1), some (ZI x6_22), some (ZI (σ 2 ((12 * o) + x6_22))), some (ZI (σ 2 ((12 * x3_5) + x6_22)))] [ZI 1, ZI (2 * x4_22)] 41 σ
                        refine zr_iadd (pc := 111) hV dX12_sharedWith_111 ?_
                        refine zr_istore (pc := 112) hV [some (ZR 0), some (ZI o), some (ZI x2_5), some (ZI x3_5), some (ZI ((2 * x4_22) + 1)), some (ZI 1), some (ZI x6_22), some (ZI (σ 2 ((12 * o) + x6_22))), some (ZI (σ 2 ((12 * x3_5) + x6_22)))] dX12_sharedWith_112 (by decide) rfl rfl ?_
                        refine zr_iinc (pc := 114) hV [some (ZR 0), some (ZI o), some (ZI x2_5), some (ZI x3_5), some (ZI ((2 * x4_22) + 1)), some (ZI 1), some (ZI (x6_22 + 1)), some (ZI (σ 2 ((12 * o) + x6_22))), some (ZI (σ 2 ((12 * x3_5) + x6_22)))] (x6_22 + 1) dX12_sharedWith_114 rfl rfl (by decide) rfl rfl ?_
                        refine zr_goto (pc := 117) hV 22 dX12_sharedWith_117 (by decide) ?_
                        have t37 := zx_g2 hσ
                        refine zr_sub (pc := 22) hV [some (ZR 0), some (ZI o), some (ZI x2_5), some (ZI x3_5), some (ZI ((2 * x4_22) + 1)), some (ZI 1), some (ZI (x6_22 + 1)), none, none] (⟨rfl, rfl, rfl, rfl, rfl, rfl, rfl, trivial⟩) ?_
                        exact ih22 ((2 * x4_22) + 1) 1 (x6_22 + 1) (by omega) (by omega) (by omega) (by rw [zt_cb_y (by omega) (by omega), ← hi22_0]) ⟨fun _ => zt_co_s (hi22_1.1 (by omega)) (by omega), fun h => absurd h (by omega)⟩ (by omega) (by omega)
                      · show V 100 [some (ZR 0), some (ZI o), some (ZI x2_5), some (ZI x3_5), some (ZI x4_22), some (ZI 1), some (ZI x6_22), some (ZI (σ 2 ((12 * o) + x6_22))), some (ZI (σ 2 ((12 * x3_5) + x6_22)))] [ZI (2 * x4_22)] 41 σ
                        refine zr_iload (pc := 100) hV dX12_sharedWith_100 rfl ?_
                        refine zr_iconst (pc := 102) hV 1 dX12_sharedWith_102 rfl ?_
                        refine zr_icmp_ne (pc := 103) hV 110 dX12_sharedWith_103 (by decide) (by omega) ⟨by decide, by decide⟩ (fun c38 => ?_) (fun c38 => ?_)
                        · show V 110 [some (ZR 0), some (ZI o), some (ZI x2_5), some (ZI x3_5), some (ZI x4_22), some (ZI 1), some (ZI x6_22), some (ZI (σ 2 ((12 * o) + x6_22))), some (ZI (σ 2 ((12 * x3_5) + x6_22)))] [ZI (2 * x4_22)] 41 σ
                          refine zr_iconst (pc := 110) hV 0 dX12_sharedWith_110 rfl ?_
                          show V 111 [some (ZR 0), some (ZI o), some (ZI x2_5), some (ZI x3_5), some (ZI x4_22), some (ZI 1), some (ZI x6_22), some (ZI (σ 2 ((12 * o) + x6_22))), some (ZI (σ 2 ((12 * x3_5) + x6_22)))] [ZI 0, ZI (2 * x4_22)] 41 σ
                          refine zr_iadd (pc := 111) hV dX12_sharedWith_111 ?_
                          refine zr_istore (pc := 112) hV [some (ZR 0), some (ZI o), some (ZI x2_5), some (ZI x3_5), some (ZI ((2 * x4_22) + 0)), some (ZI 1), some (ZI x6_22), some (ZI (σ 2 ((12 * o) + x6_22))), some (ZI (σ 2 ((12 * x3_5) + x6_22)))] dX12_sharedWith_112 (by decide) rfl rfl ?_
                          refine zr_iinc (pc := 114) hV [some (ZR 0), some (ZI o), some (ZI x2_5), some (ZI x3_5), some (ZI ((2 * x4_22) + 0)), some (ZI 1), some (ZI (x6_22 + 1)), some (ZI (σ 2 ((12 * o) + x6_22))), some (ZI (σ 2 ((12 * x3_5) + x6_22)))] (x6_22 + 1) dX12_sharedWith_114 rfl rfl (by decide) rfl rfl ?_
                          refine zr_goto (pc := 117) hV 22 dX12_sharedWith_117 (by decide) ?_
                          have t39 := zx_g2 hσ
                          refine zr_sub (pc := 22) hV [some (ZR 0), some (ZI o), some (ZI x2_5), some (ZI x3_5), some (ZI ((2 * x4_22) + 0)), some (ZI 1), some (ZI (x6_22 + 1)), none, none] (⟨rfl, rfl, rfl, rfl, rfl, rfl, rfl, trivial⟩) ?_
                          exact ih22 ((2 * x4_22) + 0) 1 (x6_22 + 1) (by omega) (by omega) (by omega) (by rw [zt_cb_n (by omega) (by omega), ← hi22_0]; omega) ⟨fun _ => zt_co_s (hi22_1.1 (by omega)) (by omega), fun h => absurd h (by omega)⟩ (by omega) (by omega)
                        · show V 106 [some (ZR 0), some (ZI o), some (ZI x2_5), some (ZI x3_5), some (ZI x4_22), some (ZI 1), some (ZI x6_22), some (ZI (σ 2 ((12 * o) + x6_22))), some (ZI (σ 2 ((12 * x3_5) + x6_22)))] [ZI (2 * x4_22)] 41 σ
                          refine zr_iconst (pc := 106) hV 1 dX12_sharedWith_106 rfl ?_
                          refine zr_goto (pc := 107) hV 111 dX12_sharedWith_107 (by decide) ?_
                          show V 111 [some (ZR 0), some (ZI o), some (ZI x2_5), some (ZI x3_5), some (ZI x4_22), some (ZI 1), some (ZI x6_22), some (ZI (σ 2 ((12 * o) + x6_22))), some (ZI (σ 2 ((12 * x3_5) + x6_22)))] [ZI 1, ZI (2 * x4_22)] 41 σ
                          refine zr_iadd (pc := 111) hV dX12_sharedWith_111 ?_
                          refine zr_istore (pc := 112) hV [some (ZR 0), some (ZI o), some (ZI x2_5), some (ZI x3_5), some (ZI ((2 * x4_22) + 1)), some (ZI 1), some (ZI x6_22), some (ZI (σ 2 ((12 * o) + x6_22))), some (ZI (σ 2 ((12 * x3_5) + x6_22)))] dX12_sharedWith_112 (by decide) rfl rfl ?_
                          refine zr_iinc (pc := 114) hV [some (ZR 0), some (ZI o), some (ZI x2_5), some (ZI x3_5), some (ZI ((2 * x4_22) + 1)), some (ZI 1), some (ZI (x6_22 + 1)), some (ZI (σ 2 ((12 * o) + x6_22))), some (ZI (σ 2 ((12 * x3_5) + x6_22)))] (x6_22 + 1) dX12_sharedWith_114 rfl rfl (by decide) rfl rfl ?_
                          refine zr_goto (pc := 117) hV 22 dX12_sharedWith_117 (by decide) ?_
                          have t40 := zx_g2 hσ
                          refine zr_sub (pc := 22) hV [some (ZR 0), some (ZI o), some (ZI x2_5), some (ZI x3_5), some (ZI ((2 * x4_22) + 1)), some (ZI 1), some (ZI (x6_22 + 1)), none, none] (⟨rfl, rfl, rfl, rfl, rfl, rfl, rfl, trivial⟩) ?_
                          exact ih22 ((2 * x4_22) + 1) 1 (x6_22 + 1) (by omega) (by omega) (by omega) (by rw [zt_cb_y (by omega) (by omega), ← hi22_0]) ⟨fun _ => zt_co_s (hi22_1.1 (by omega)) (by omega), fun h => absurd h (by omega)⟩ (by omega) (by omega)
        have t41 := zx_g2 hσ
        exact L22 (12 - (0 : Int) + 1 : Int).toNat 0 1 0 (by omega) (by omega) (by omega) (zt_cb_0 (zt_L σ x3_5) (zt_L σ o)).symm ⟨fun _ => zt_co_0 _ _, fun h => absurd h (by omega)⟩ (by omega) (by omega)
  have t42 := zx_g3 hσ
  exact L5 (20 - (0 : Int) + 1 : Int).toNat (-4) 0 (by omega) (by omega) (zt_sw_0 σ o) (by omega) (by omega)
set_option maxHeartbeats 800000 in
theorem c_X12_addOrder3 {σ : zq_S} (hσ : zx_T σ) (q0 : zx_A σ (σ 0 3)) (q1 : zx_B σ (σ 0 3)) (q2 : 1 ≤ σ 7 (σ 0 3)) (Mσ : zx_M σ) (Oσ : zx_O σ) (Tσ : zx_TK σ) (Wσ : zx_W σ) : zq_C zx_w yX12_addOrder cX12_addOrder 1 (some .int) 0 0 41 41 [ZR 0] σ (zq_pi (fun r τ => zx_T τ ∧ (∀ a i : Int, (¬ (a = 0 ∧ i = 3) ∧ ¬ (a = 0 ∧ i = 30) ∧ a ≠ 8 ∧ a ≠ 9) → τ a i = σ a i) ∧ ((σ 0 3 = 20 → r = -3 ∧ τ 0 3 = σ 0 3) ∧ (σ 0 3 ≠ 20 → r = σ 0 3 ∧ τ 0 3 = σ 0 3 + 1)) ∧ zx_M τ ∧ zx_O τ ∧ zx_TK τ ∧ zx_W τ)) := by
  refine zq_C_of (by decide) (Nat.le_refl _) (Nat.le_of_ble_eq_true rfl) [some (ZR 0)] rfl (fun V hV => ?_)
  show V 0 [some (ZR 0)] [] 41 σ
  refine zr_aload_n (pc := 0) hV dX12_addOrder_0 rfl rfl ?_
  refine zr_getI (pc := 1) hV 3 dX12_addOrder_1 fX12_150 rfl rfl rfl (by decide) ?_
  have t1 := zx_g3 hσ
  refine zr_bipush (pc := 4) hV 20 dX12_addOrder_4 (by decide) ?_
  refine zr_icmp_ne (pc := 6) hV 12 dX12_addOrder_6 (by decide) (by omega) ⟨by decide, by decide⟩ (fun c2 => ?_) (fun c2 => ?_)
  · show V 12 [some (ZR 0)] [] 41 σ
    refine zr_aload_n (pc := 12) hV dX12_addOrder_12 rfl rfl ?_
    refine zr_getR (pc := 13) hV 11 8 dX12_addOrder_13 fX12_41 rfl rfl rfl (by decide) (zx_g11 hσ) (by omega) ?_
    refine zr_aload_n (pc := 16) hV dX12_addOrder_16 rfl rfl ?_
    refine zr_getI (pc := 17) hV 3 dX12_addOrder_17 fX12_150 rfl rfl rfl (by decide) ?_
    have t3 := zx_g3 hσ
    refine zr_iconst (pc := 20) hV (-1) dX12_addOrder_20 rfl ?_
    refine zr_iast (pc := 21) hV dX12_addOrder_21 rfl (by decide) rfl (by omega) (fun σ21 eσ21 => ?_)
    have hσ21 : zx_T σ21 := zx_ua8 eσ21 hσ (by omega)
    have hFσ21 : ∀ a i : Int, (¬ (a = 0 ∧ i = 3) ∧ ¬ (a = 0 ∧ i = 30) ∧ a ≠ 8 ∧ a ≠ 9) → σ21 a i = σ a i := fun a i h => by rw [eσ21, zq_up_ne (fun q => h.2.2.1 q.1)]
    have Mσ21 : zx_M σ21 := zx_M_fr (fun i => by rw [eσ21]; exact zq_up_ne (by omega)) (by rw [eσ21]; exact zq_up_ne (by omega)) (by rw [eσ21]; exact zq_up_ne (by omega)) (by rw [eσ21]; exact zq_up_ne (by omega)) Mσ
    have Oσ21 : zx_O σ21 := zx_O_fr (fun i => by rw [eσ21]; exact zq_up_ne (by omega)) (fun i => by rw [eσ21]; exact zq_up_ne (by omega)) (fun i => by rw [eσ21]; exact zq_up_ne (by omega)) (by rw [eσ21]; exact zq_up_ne (by omega)) (by rw [eσ21]; exact zq_up_ne (by omega)) Oσ
    have Tσ21 : zx_TK σ21 := zx_TK_fr (fun i => by rw [eσ21]; exact zq_up_ne (by omega)) (by rw [eσ21]; exact zq_up_ne (by omega)) Tσ
    have Wσ21 : zx_W σ21 := zx_W_fr (fun i => by rw [eσ21]; exact zq_up_ne (by omega)) (by rw [eσ21]; exact zq_up_ne (by omega)) (by rw [eσ21]; exact zq_up_ne (by omega)) (by rw [eσ21]; exact zq_up_ne (by omega)) (fun i => by rw [eσ21]; exact zq_up_ne (by omega)) Wσ
    refine zr_aload_n (pc := 22) hV dX12_addOrder_22 rfl rfl ?_
    refine zr_getR (pc := 23) hV 12 9 dX12_addOrder_23 fX12_44 rfl rfl rfl (by decide) (zx_g12 hσ21) (by omega) ?_
    refine zr_aload_n (pc := 26) hV dX12_addOrder_26 rfl rfl ?_
    refine zr_getI (pc := 27) hV 3 dX12_addOrder_27 fX12_150 rfl rfl rfl (by decide) ?_
    have t4 := zx_g3 hσ21
    have t5 : σ21 0 3 = σ 0 3 := by rw [eσ21]; exact zq_up_ne (by omega)
    refine zr_iconst (pc := 30) hV (-1) dX12_addOrder_30 rfl ?_
    refine zr_iast (pc := 31) hV dX12_addOrder_31 rfl (by decide) rfl (by omega) (fun σ31 eσ31 => ?_)
    have hσ31 : zx_T σ31 := zx_ua9 eσ31 hσ21 (by omega)
    have hFσ31 : ∀ a i : Int, (¬ (a = 0 ∧ i = 3) ∧ ¬ (a = 0 ∧ i = 30) ∧ a ≠ 8 ∧ a ≠ 9) → σ31 a i = σ a i := fun a i h => by rw [eσ31, zq_up_ne (fun q => h.2.2.2 q.1)]; exact hFσ21 a i h
    have Mσ31 : zx_M σ31 := zx_M_fr (fun i => by rw [eσ31]; exact zq_up_ne (by omega)) (by rw [eσ31]; exact zq_up_ne (by omega)) (by rw [eσ31]; exact zq_up_ne (by omega)) (by rw [eσ31]; exact zq_up_ne (by omega)) Mσ21
    have Oσ31 : zx_O σ31 := zx_O_fr (fun i => by rw [eσ31]; exact zq_up_ne (by omega)) (fun i => by rw [eσ31]; exact zq_up_ne (by omega)) (fun i => by rw [eσ31]; exact zq_up_ne (by omega)) (by rw [eσ31]; exact zq_up_ne (by omega)) (by rw [eσ31]; exact zq_up_ne (by omega)) Oσ21
    have Tσ31 : zx_TK σ31 := zx_TK_fr (fun i => by rw [eσ31]; exact zq_up_ne (by omega)) (by rw [eσ31]; exact zq_up_ne (by omega)) Tσ21
    have Wσ31 : zx_W σ31 := zx_W_fr (fun i => by rw [eσ31]; exact zq_up_ne (by omega)) (by rw [eσ31]; exact zq_up_ne (by omega)) (by rw [eσ31]; exact zq_up_ne (by omega)) (by rw [eσ31]; exact zq_up_ne (by omega)) (fun i => by rw [eσ31]; exact zq_up_ne (by omega)) Wσ21
    refine zr_aload_n (pc := 32) hV dX12_addOrder_32 rfl rfl ?_
    refine zr_dup (pc := 33) hV dX12_addOrder_33 (fun _ => rfl) ?_
    refine zr_getI (pc := 34) hV 3 dX12_addOrder_34 fX12_150 rfl rfl rfl (by decide) ?_
    have t6 := zx_g3 hσ31
    have t7 : σ31 0 3 = σ21 0 3 := by rw [eσ31]; exact zq_up_ne (by omega)
    have t8 : σ21 0 3 = σ 0 3 := by rw [eσ21]; exact zq_up_ne (by omega)
    refine zr_iconst (pc := 37) hV 1 dX12_addOrder_37 rfl ?_
    refine zr_iadd (pc := 38) hV dX12_addOrder_38 ?_
    refine zr_putI (pc := 39) hV 3 dX12_addOrder_39 fX12_150 rfl rfl rfl rfl (by decide) (fun σ39 eσ39 => ?_)
    have hσ39 : zx_T σ39 := zx_u3 eσ39 hσ31 (by omega)
    have hFσ39 : ∀ a i : Int, (¬ (a = 0 ∧ i = 3) ∧ ¬ (a = 0 ∧ i = 30) ∧ a ≠ 8 ∧ a ≠ 9) → σ39 a i = σ a i := fun a i h => by rw [eσ39, zq_up_ne h.1]; exact hFσ31 a i h
    have Oσ39 : zx_O σ39 := zx_O_inc Oσ31 (by rw [show σ31 0 3 = σ 0 3 by omega]; exact zx_A_fr (fun i => hFσ31 5 i (by omega)) (fun i => hFσ31 6 i (by omega)) q0) (by rw [show σ31 0 3 = σ 0 3 by omega]; exact zx_B_fr (fun i => hFσ31 2 i (by omega)) (hFσ31 0 2 (by omega)) q1) eσ39 rfl
    have Tσ39 : zx_TK σ39 := zx_TK_inc Tσ31 (by rw [eσ39, zq_up_same]) (fun i => by rw [eσ39]; exact zq_up_ne (by omega)) (by rw [show σ31 0 3 = σ 0 3 by omega, hFσ31 7 _ (by omega)]; exact q2)
    refine zr_aload_n (pc := 42) hV dX12_addOrder_42 rfl rfl ?_
    refine zr_iconst (pc := 43) hV 0 dX12_addOrder_43 rfl ?_
    refine zr_putZ (pc := 44) hV 30 dX12_addOrder_44 fX12_153 rfl rfl rfl (by omega) rfl (by decide) (fun σ44 eσ44 => ?_)
    have hσ44 : zx_T σ44 := zx_u30 eσ44 hσ39 (by omega)
    have hFσ44 : ∀ a i : Int, (¬ (a = 0 ∧ i = 3) ∧ ¬ (a = 0 ∧ i = 30) ∧ a ≠ 8 ∧ a ≠ 9) → σ44 a i = σ a i := fun a i h => by rw [eσ44, zq_up_ne h.2.1]; exact hFσ39 a i h
    have Mσ44 : zx_M σ44 := zx_M_0 (by rw [eσ44, zq_up_same])
    have Oσ44 : zx_O σ44 := zx_O_fr (fun i => by rw [eσ44]; exact zq_up_ne (by omega)) (fun i => by rw [eσ44]; exact zq_up_ne (by omega)) (fun i => by rw [eσ44]; exact zq_up_ne (by omega)) (by rw [eσ44]; exact zq_up_ne (by omega)) (by rw [eσ44]; exact zq_up_ne (by omega)) Oσ39
    have Tσ44 : zx_TK σ44 := zx_TK_fr (fun i => by rw [eσ44]; exact zq_up_ne (by omega)) (by rw [eσ44]; exact zq_up_ne (by omega)) Tσ39
    have Wσ44 : zx_W σ44 := zx_W_0 (by rw [eσ44, zq_up_same])
    refine zr_aload_n (pc := 47) hV dX12_addOrder_47 rfl rfl ?_
    refine zr_getI (pc := 48) hV 3 dX12_addOrder_48 fX12_150 rfl rfl rfl (by decide) ?_
    have t9 := zx_g3 hσ44
    have t10 : σ44 0 3 = σ39 0 3 := by rw [eσ44]; exact zq_up_ne (by omega)
    have t11 : σ39 0 3 = (σ31 0 3) + 1 := by rw [eσ39]; exact zq_up_same _ _ _ _
    refine zr_iconst (pc := 51) hV 1 dX12_addOrder_51 rfl ?_
    refine zr_isub (pc := 52) hV dX12_addOrder_52 ?_
    have t12 := zx_g3 hσ44
    have t13 : σ44 0 3 = σ39 0 3 := by rw [eσ44]; exact zq_up_ne (by omega)
    have t14 : σ39 0 3 = (σ31 0 3) + 1 := by rw [eσ39]; exact zq_up_same _ _ _ _
    exact zr_iret (pc := 53) hV dX12_addOrder_53 rfl rfl ⟨_, rfl, (by omega), hσ44, hFσ44, (by omega), Mσ44, Oσ44, Tσ44, Wσ44⟩
  · show V 9 [some (ZR 0)] [] 41 σ
    refine zr_bipush (pc := 9) hV (-3) dX12_addOrder_9 (by decide) ?_
    have t15 := zx_g3 hσ
    exact zr_iret (pc := 11) hV dX12_addOrder_11 rfl rfl ⟨_, rfl, ⟨by decide, by decide⟩, hσ, (fun a i _ => rfl), (by omega), Mσ, Oσ, Tσ, Wσ⟩
set_option maxHeartbeats 800000 in
theorem c_X12_unorder3 {σ : zq_S} (hσ : zx_T σ)  (Mσ : zx_M σ) (Oσ : zx_O σ) (Tσ : zx_TK σ) (Wσ : zx_W σ) : zq_C zx_w yX12_unorder cX12_unorder 1 (some .int) 0 0 41 41 [ZR 0] σ (zq_pi (fun r τ => zx_T τ ∧ (∀ a i : Int, (¬ (a = 0 ∧ i = 3) ∧ ¬ (a = 0 ∧ i = 30)) → τ a i = σ a i) ∧ ((σ 0 3 = 0 → r = -2 ∧ τ 0 3 = 0) ∧ (σ 0 3 ≠ 0 → r = σ 0 3 - 1 ∧ τ 0 3 = σ 0 3 - 1)) ∧ zx_M τ ∧ zx_O τ ∧ zx_TK τ ∧ zx_W τ)) := by
  refine zq_C_of (by decide) (Nat.le_refl _) (Nat.le_of_ble_eq_true rfl) [some (ZR 0)] rfl (fun V hV => ?_)
  show V 0 [some (ZR 0)] [] 41 σ
  refine zr_aload_n (pc := 0) hV dX12_unorder_0 rfl rfl ?_
  refine zr_getI (pc := 1) hV 3 dX12_unorder_1 fX12_150 rfl rfl rfl (by decide) ?_
  have t1 := zx_g3 hσ
  refine zr_if_ne (pc := 4) hV 10 dX12_unorder_4 (by decide) (by omega) (fun c2 => ?_) (fun c2 => ?_)
  · show V 10 [some (ZR 0)] [] 41 σ
    refine zr_aload_n (pc := 10) hV dX12_unorder_10 rfl rfl ?_
    refine zr_dup (pc := 11) hV dX12_unorder_11 (fun _ => rfl) ?_
    refine zr_getI (pc := 12) hV 3 dX12_unorder_12 fX12_150 rfl rfl rfl (by decide) ?_
    have t3 := zx_g3 hσ
    refine zr_iconst (pc := 15) hV 1 dX12_unorder_15 rfl ?_
    refine zr_isub (pc := 16) hV dX12_unorder_16 ?_
    refine zr_putI (pc := 17) hV 3 dX12_unorder_17 fX12_150 rfl rfl rfl rfl (by decide) (fun σ17 eσ17 => ?_)
    have hσ17 : zx_T σ17 := zx_u3 eσ17 hσ (by omega)
    have hFσ17 : ∀ a i : Int, (¬ (a = 0 ∧ i = 3) ∧ ¬ (a = 0 ∧ i = 30)) → σ17 a i = σ a i := fun a i h => by rw [eσ17, zq_up_ne h.1]
    have Oσ17 : zx_O σ17 := zx_O_le Oσ eσ17 (by omega)
    have Tσ17 : zx_TK σ17 := zx_TK_le Tσ eσ17 (by omega)
    refine zr_aload_n (pc := 20) hV dX12_unorder_20 rfl rfl ?_
    refine zr_iconst (pc := 21) hV 0 dX12_unorder_21 rfl ?_
    refine zr_putZ (pc := 22) hV 30 dX12_unorder_22 fX12_153 rfl rfl rfl (by omega) rfl (by decide) (fun σ22 eσ22 => ?_)
    have hσ22 : zx_T σ22 := zx_u30 eσ22 hσ17 (by omega)
    have hFσ22 : ∀ a i : Int, (¬ (a = 0 ∧ i = 3) ∧ ¬ (a = 0 ∧ i = 30)) → σ22 a i = σ a i := fun a i h => by rw [eσ22, zq_up_ne h.2]; exact hFσ17 a i h
    have Mσ22 : zx_M σ22 := zx_M_0 (by rw [eσ22, zq_up_same])
    have Oσ22 : zx_O σ22 := zx_O_fr (fun i => by rw [eσ22]; exact zq_up_ne (by omega)) (fun i => by rw [eσ22]; exact zq_up_ne (by omega)) (fun i => by rw [eσ22]; exact zq_up_ne (by omega)) (by rw [eσ22]; exact zq_up_ne (by omega)) (by rw [eσ22]; exact zq_up_ne (by omega)) Oσ17
    have Tσ22 : zx_TK σ22 := zx_TK_fr (fun i => by rw [eσ22]; exact zq_up_ne (by omega)) (by rw [eσ22]; exact zq_up_ne (by omega)) Tσ17
    have Wσ22 : zx_W σ22 := zx_W_0 (by rw [eσ22, zq_up_same])
    refine zr_aload_n (pc := 25) hV dX12_unorder_25 rfl rfl ?_
    refine zr_getI (pc := 26) hV 3 dX12_unorder_26 fX12_150 rfl rfl rfl (by decide) ?_
    have t4 := zx_g3 hσ22
    have t5 : σ22 0 3 = σ17 0 3 := by rw [eσ22]; exact zq_up_ne (by omega)
    have t6 : σ17 0 3 = (σ 0 3) - 1 := by rw [eσ17]; exact zq_up_same _ _ _ _
    have t7 := zx_g3 hσ22
    have t8 : σ22 0 3 = σ17 0 3 := by rw [eσ22]; exact zq_up_ne (by omega)
    have t9 : σ17 0 3 = (σ 0 3) - 1 := by rw [eσ17]; exact zq_up_same _ _ _ _
    exact zr_iret (pc := 29) hV dX12_unorder_29 rfl rfl ⟨_, rfl, (by omega), hσ22, hFσ22, (by omega), Mσ22, Oσ22, Tσ22, Wσ22⟩
  · show V 7 [some (ZR 0)] [] 41 σ
    refine zr_bipush (pc := 7) hV (-2) dX12_unorder_7 (by decide) ?_
    have t10 := zx_g3 hσ
    exact zr_iret (pc := 9) hV dX12_unorder_9 rfl rfl ⟨_, rfl, ⟨by decide, by decide⟩, hσ, (fun a i _ => rfl), (by omega), Mσ, Oσ, Tσ, Wσ⟩
set_option maxHeartbeats 800000 in
theorem c_X12_order3 {σ : zq_S} (hσ : zx_T σ) (q0 : ∀ i, 0 ≤ i → i < σ 0 14 → 0 ≤ σ 10 i) (Mσ : zx_M σ) (Oσ : zx_O σ) (Tσ : zx_TK σ) (Wσ : zx_W σ) : zq_C zx_w yX12_order cX12_order 3 (some .int) 6 143 41 41 [ZR 0] σ (zq_pi (fun r τ => zx_T τ ∧ (∀ a i : Int, (¬ (a = 0 ∧ i = 14) ∧ ¬ (a = 0 ∧ i = 15) ∧ ¬ (a = 0 ∧ i = 16) ∧ ¬ (a = 0 ∧ i = 17) ∧ ¬ (a = 0 ∧ i = 18) ∧ ¬ (a = 0 ∧ i = 3) ∧ ¬ (a = 0 ∧ i = 30) ∧ ¬ (a = 1 ∧ i = (σ 0 3)) ∧ ¬ (a = 2 ∧ 12 * (σ 0 3) ≤ i ∧ i < 12 * (σ 0 3) + 12) ∧ ¬ (a = 3 ∧ i = (σ 0 3)) ∧ ¬ (a = 4 ∧ i = (σ 0 3)) ∧ ¬ (a = 5 ∧ i = (σ 0 3)) ∧ ¬ (a = 6 ∧ 18 * (σ 0 3) ≤ i ∧ i < 18 * (σ 0 3) + 18) ∧ ¬ (a = 7 ∧ i = (σ 0 3)) ∧ a ≠ 8 ∧ a ≠ 9) → τ a i = σ a i) ∧ (τ 0 14 = 0) ∧ zq_hid (zt_ro σ τ r) ∧ zx_M τ ∧ zx_O τ ∧ zx_TK τ ∧ zx_W τ)) := by
  refine zq_C_of (by decide) (Nat.le_refl _) (Nat.le_of_ble_eq_true rfl) [some (ZR 0), none, none] rfl (fun V hV => ?_)
  show V 0 [some (ZR 0), none, none] [] 41 σ
  refine zr_aload_n (pc := 0) hV dX12_order_0 rfl rfl ?_
  refine zr_aload_n (pc := 1) hV dX12_order_1 rfl rfl ?_
  refine zr_getI (pc := 2) hV 3 dX12_order_2 fX12_150 rfl rfl rfl (by decide) ?_
  have t1 := zx_g3 hσ
  have t2 := zx_g14 hσ
  refine zr_callVi (pc := 5) hV [ZI (σ 0 3)] (st := []) (c_X12_readOrder3 (σ := σ) hσ (σ 0 3) (by omega) q0) dX12_order_5 mX12_262 rfl (by decide) (by decide) (Nat.le_of_ble_eq_true rfl) (Nat.le_refl _) (fun r5 σ5 hr5 pσ5 => ?_)
  obtain ⟨hσ5, hfσ5, pσ5, wσ5⟩ := pσ5
  have Mσ5 : zx_M σ5 := zx_M_fr (fun i => hfσ5 18 i (by omega)) (hfσ5 0 30 (by omega)) (hfσ5 0 2 (by omega)) (hfσ5 0 3 (by omega)) Mσ
  have Oσ5 : zx_O σ5 := zx_O_old hσ (hfσ5 0 2 (by omega)) (hfσ5 0 3 (by omega)) (fun i h => hfσ5 2 i (by omega)) (fun i h => hfσ5 5 i (by omega)) (fun i h => hfσ5 6 i (by omega)) Oσ
  have Tσ5 : zx_TK σ5 := zx_TK_old (hfσ5 0 3 (by omega)) (fun i h => hfσ5 7 i (by omega)) Tσ
  have Wσ5 : zx_W σ5 := zx_W_old (fun i => hfσ5 18 i (by omega)) (hfσ5 0 30 (by omega)) (hfσ5 0 2 (by omega)) (hfσ5 0 3 (by omega)) (by have := zx_g2 hσ; omega) (fun i h => hfσ5 2 i (by omega)) Wσ
  have hFσ5 : ∀ a i : Int, (¬ (a = 0 ∧ i = 14) ∧ ¬ (a = 0 ∧ i = 15) ∧ ¬ (a = 0 ∧ i = 16) ∧ ¬ (a = 0 ∧ i = 17) ∧ ¬ (a = 0 ∧ i = 18) ∧ ¬ (a = 0 ∧ i = 3) ∧ ¬ (a = 0 ∧ i = 30) ∧ ¬ (a = 1 ∧ i = (σ 0 3)) ∧ ¬ (a = 2 ∧ 12 * (σ 0 3) ≤ i ∧ i < 12 * (σ 0 3) + 12) ∧ ¬ (a = 3 ∧ i = (σ 0 3)) ∧ ¬ (a = 4 ∧ i = (σ 0 3)) ∧ ¬ (a = 5 ∧ i = (σ 0 3)) ∧ ¬ (a = 6 ∧ 18 * (σ 0 3) ≤ i ∧ i < 18 * (σ 0 3) + 18) ∧ ¬ (a = 7 ∧ i = (σ 0 3)) ∧ a ≠ 8 ∧ a ≠ 9) → σ5 a i = σ a i := fun a i h => (hfσ5 a i ⟨h.2.1, h.2.2.1, h.2.2.2.1, (fun q => h.2.2.2.2.2.2.2.1 ⟨q.1, by omega⟩), (fun q => h.2.2.2.2.2.2.2.2.1 ⟨q.1, by omega⟩), (fun q => h.2.2.2.2.2.2.2.2.2.1 ⟨q.1, by omega⟩), (fun q => h.2.2.2.2.2.2.2.2.2.2.1 ⟨q.1, by omega⟩), (fun q => h.2.2.2.2.2.2.2.2.2.2.2.1 ⟨q.1, by omega⟩), (fun q => h.2.2.2.2.2.2.2.2.2.2.2.2.1 ⟨q.1, by omega⟩), (fun q => h.2.2.2.2.2.2.2.2.2.2.2.2.2.1 ⟨q.1, by omega⟩)⟩)
  have t3 := zx_g0 hσ
  have t4 := zx_g1 hσ
  have t5 := zx_g14 hσ
  have t6 := zx_g2 hσ
  have t7 := zx_g3 hσ
  refine zr_istore_n (pc := 8) hV [some (ZR 0), some (ZI r5), none] dX12_order_8 rfl (by decide) rfl rfl ?_
  refine zr_aload_n (pc := 9) hV dX12_order_9 rfl rfl ?_
  refine zr_iconst (pc := 10) hV 0 dX12_order_10 rfl ?_
  refine zr_putI (pc := 11) hV 14 dX12_order_11 fX12_197 rfl rfl rfl rfl (by decide) (fun σ11 eσ11 => ?_)
  have hσ11 : zx_T σ11 := zx_u14 eσ11 hσ5 (by omega)
  have hFσ11 : ∀ a i : Int, (¬ (a = 0 ∧ i = 14) ∧ ¬ (a = 0 ∧ i = 15) ∧ ¬ (a = 0 ∧ i = 16) ∧ ¬ (a = 0 ∧ i = 17) ∧ ¬ (a = 0 ∧ i = 18) ∧ ¬ (a = 0 ∧ i = 3) ∧ ¬ (a = 0 ∧ i = 30) ∧ ¬ (a = 1 ∧ i = (σ 0 3)) ∧ ¬ (a = 2 ∧ 12 * (σ 0 3) ≤ i ∧ i < 12 * (σ 0 3) + 12) ∧ ¬ (a = 3 ∧ i = (σ 0 3)) ∧ ¬ (a = 4 ∧ i = (σ 0 3)) ∧ ¬ (a = 5 ∧ i = (σ 0 3)) ∧ ¬ (a = 6 ∧ 18 * (σ 0 3) ≤ i ∧ i < 18 * (σ 0 3) + 18) ∧ ¬ (a = 7 ∧ i = (σ 0 3)) ∧ a ≠ 8 ∧ a ≠ 9) → σ11 a i = σ a i := fun a i h => by rw [eσ11, zq_up_ne h.1]; exact hFσ5 a i h
  have Mσ11 : zx_M σ11 := zx_M_fr (fun i => by rw [eσ11]; exact zq_up_ne (by omega)) (by rw [eσ11]; exact zq_up_ne (by omega)) (by rw [eσ11]; exact zq_up_ne (by omega)) (by rw [eσ11]; exact zq_up_ne (by omega)) Mσ5
  have Oσ11 : zx_O σ11 := zx_O_fr (fun i => by rw [eσ11]; exact zq_up_ne (by omega)) (fun i => by rw [eσ11]; exact zq_up_ne (by omega)) (fun i => by rw [eσ11]; exact zq_up_ne (by omega)) (by rw [eσ11]; exact zq_up_ne (by omega)) (by rw [eσ11]; exact zq_up_ne (by omega)) Oσ5
  have Tσ11 : zx_TK σ11 := zx_TK_fr (fun i => by rw [eσ11]; exact zq_up_ne (by omega)) (by rw [eσ11]; exact zq_up_ne (by omega)) Tσ5
  have Wσ11 : zx_W σ11 := zx_W_fr (fun i => by rw [eσ11]; exact zq_up_ne (by omega)) (by rw [eσ11]; exact zq_up_ne (by omega)) (by rw [eσ11]; exact zq_up_ne (by omega)) (by rw [eσ11]; exact zq_up_ne (by omega)) (fun i => by rw [eσ11]; exact zq_up_ne (by omega)) Wσ5
  have z3 : σ11 0 3 = σ 0 3 := by rw [eσ11, zq_up_ne (by omega)]; exact hfσ5 0 3 (by omega)
  have z15 : σ11 0 15 = σ5 0 15 := by rw [eσ11]; exact zq_up_ne (by omega)
  refine zr_iload_n (pc := 14) hV dX12_order_14 rfl rfl ?_
  refine zr_if_ne (pc := 15) hV 26 dX12_order_15 (by decide) (by omega) (fun c8 => ?_) (fun c8 => ?_)
  · show V 26 [some (ZR 0), some (ZI r5), none] [] 41 σ11
    refine zr_aload_n (pc := 26) hV dX12_order_26 rfl rfl ?_
    refine zr_aload_n (pc := 27) hV dX12_order_27 rfl rfl ?_
    refine zr_getI (pc := 28) hV 3 dX12_order_28 fX12_150 rfl rfl rfl (by decide) ?_
    have t9 := zx_g3 hσ11
    have t10 : σ11 0 3 = σ5 0 3 := by rw [eσ11]; exact zq_up_ne (by omega)
    have t11 : σ5 0 3 = σ 0 3 := hfσ5 _ _ (by omega)
    refine zr_callVp (pc := 31) hV [ZI (σ11 0 3)] (st := []) (c_X12_sharedWith2 (σ := σ11) hσ11 (σ11 0 3) (by omega)) dX12_order_31 mX12_265 rfl (by decide) (by decide) (Nat.le_of_ble_eq_true rfl) (Nat.le_refl _) (fun r31 hr31 pr31 => ?_)
    have t12 := zx_g3 hσ11
    have t13 : σ11 0 3 = σ5 0 3 := by rw [eσ11]; exact zq_up_ne (by omega)
    have t14 : σ5 0 3 = σ 0 3 := hfσ5 _ _ (by omega)
    have sw31 : zt_sw σ11 (σ 0 3) (σ 0 3) r31 := by have q := pr31; rw [z3] at q; exact q
    refine zr_istore_n (pc := 34) hV [some (ZR 0), some (ZI r5), some (ZI r31)] dX12_order_34 rfl (by decide) rfl rfl ?_
    refine zr_iload_n (pc := 35) hV dX12_order_35 rfl rfl ?_
    refine zr_if_lt (pc := 36) hV 47 dX12_order_36 (by decide) (by omega) (fun c15 => ?_) (fun c15 => ?_)
    · show V 47 [some (ZR 0), some (ZI r5), some (ZI r31)] [] 41 σ11
      refine zr_aload_n (pc := 47) hV dX12_order_47 rfl rfl ?_
      have t16 := zx_g3 hσ11
      have t17 : σ11 0 3 = σ5 0 3 := by rw [eσ11]; exact zq_up_ne (by omega)
      have t18 : σ5 0 3 = σ 0 3 := hfσ5 _ _ (by omega)
      have t19 := zx_g3 hσ11
      have t20 : σ11 0 3 = σ5 0 3 := by rw [eσ11]; exact zq_up_ne (by omega)
      have t21 : σ5 0 3 = σ 0 3 := hfσ5 _ _ (by omega)
      have t22 := zx_g3 hσ11
      have t23 : σ11 0 3 = σ5 0 3 := by rw [eσ11]; exact zq_up_ne (by omega)
      have t24 : σ5 0 3 = σ 0 3 := hfσ5 _ _ (by omega)
      refine zr_callVi (pc := 48) hV [] (st := []) (c_X12_addOrder3 (σ := σ11) hσ11 (by rw [z3]; exact zx_A_fr (fun i => by rw [eσ11]; exact zq_up_ne (by omega)) (fun i => by rw [eσ11]; exact zq_up_ne (by omega)) (wσ5.1 (by omega)).2.2.2.1) (by rw [z3]; exact zx_B_fr (fun i => by rw [eσ11]; exact zq_up_ne (by omega)) (by rw [eσ11]; exact zq_up_ne (by omega)) (wσ5.1 (by omega)).2.2.2.2.1) (by rw [z3, eσ11, zq_up_ne (by omega)]; exact (wσ5.1 (by omega)).2.2.2.2.2) Mσ11 Oσ11 Tσ11 Wσ11) dX12_order_48 mX12_268 rfl (by decide) (by decide) (Nat.le_of_ble_eq_true rfl) (Nat.le_refl _) (fun r48 σ48 hr48 pσ48 => ?_)
      obtain ⟨hσ48, hfσ48, pσ48, Mσ48, Oσ48, Tσ48, Wσ48⟩ := pσ48
      have hFσ48 : ∀ a i : Int, (¬ (a = 0 ∧ i = 14) ∧ ¬ (a = 0 ∧ i = 15) ∧ ¬ (a = 0 ∧ i = 16) ∧ ¬ (a = 0 ∧ i = 17) ∧ ¬ (a = 0 ∧ i = 18) ∧ ¬ (a = 0 ∧ i = 3) ∧ ¬ (a = 0 ∧ i = 30) ∧ ¬ (a = 1 ∧ i = (σ 0 3)) ∧ ¬ (a = 2 ∧ 12 * (σ 0 3) ≤ i ∧ i < 12 * (σ 0 3) + 12) ∧ ¬ (a = 3 ∧ i = (σ 0 3)) ∧ ¬ (a = 4 ∧ i = (σ 0 3)) ∧ ¬ (a = 5 ∧ i = (σ 0 3)) ∧ ¬ (a = 6 ∧ 18 * (σ 0 3) ≤ i ∧ i < 18 * (σ 0 3) + 18) ∧ ¬ (a = 7 ∧ i = (σ 0 3)) ∧ a ≠ 8 ∧ a ≠ 9) → σ48 a i = σ a i := fun a i h => (hfσ48 a i ⟨h.2.2.2.2.2.1, h.2.2.2.2.2.2.1, h.2.2.2.2.2.2.2.2.2.2.2.2.2.2.1, h.2.2.2.2.2.2.2.2.2.2.2.2.2.2.2⟩).trans (hFσ11 a i h)
      have t25 := zx_g3 hσ11
      have t26 : σ11 0 3 = σ5 0 3 := by rw [eσ11]; exact zq_up_ne (by omega)
      have t27 : σ5 0 3 = σ 0 3 := hfσ5 _ _ (by omega)
      have t28 := zx_g3 hσ48
      have t29 := zx_g14 hσ48
      have t30 : σ48 0 14 = σ11 0 14 := hfσ48 _ _ (by omega)
      have t31 : σ11 0 14 = 0 := by rw [eσ11]; exact zq_up_same _ _ _ _
      exact zr_iret (pc := 51) hV dX12_order_51 rfl rfl ⟨_, rfl, (by omega), hσ48, hFσ48, (by omega), (show zt_ro σ σ48 r48 from (by have v := wσ5.1 (by omega); exact ⟨fun d => absurd d v.1, fun _ nk => absurd v.2.1 nk, fun _ _ => ⟨zt_cR_fr (by rw [hfσ48 1 _ (by omega), eσ11, zq_up_ne (by omega)]) (fun i => by rw [hfσ48 2 _ (by omega), eσ11, zq_up_ne (by omega)]) (by rw [hfσ48 3 _ (by omega), eσ11, zq_up_ne (by omega)]) (by rw [hfσ48 4 _ (by omega), eσ11, zq_up_ne (by omega)]) (by rw [hfσ48 5 _ (by omega), eσ11, zq_up_ne (by omega)]) (fun i => by rw [hfσ48 6 _ (by omega), eσ11, zq_up_ne (by omega)]) (by rw [hfσ48 7 _ (by omega), eσ11, zq_up_ne (by omega)]) v.2.2.1, r31, zt_sw_fr (fun i => by rw [hfσ48 2 _ (by omega)]) (by rw [hfσ48 0 _ (by omega)]) sw31, fun h => absurd h (by omega), fun _ => ⟨by rw [hfσ48 0 18 (by omega)]; rw [eσ11, zq_up_ne (by omega)]; exact hfσ5 0 18 (by omega), by rw [← z3]; exact pσ48.1, by rw [← z3]; exact pσ48.2⟩⟩⟩)), Mσ48, Oσ48, Tσ48, Wσ48⟩
    · show V 39 [some (ZR 0), some (ZI r5), some (ZI r31)] [] 41 σ11
      refine zr_aload_n (pc := 39) hV dX12_order_39 rfl rfl ?_
      refine zr_iload_n (pc := 40) hV dX12_order_40 rfl rfl ?_
      refine zr_putI (pc := 41) hV 18 dX12_order_41 fX12_157 rfl rfl rfl rfl (by decide) (fun σ41 eσ41 => ?_)
      have hσ41 : zx_T σ41 := zx_u18 eσ41 hσ11 (by omega)
      have hFσ41 : ∀ a i : Int, (¬ (a = 0 ∧ i = 14) ∧ ¬ (a = 0 ∧ i = 15) ∧ ¬ (a = 0 ∧ i = 16) ∧ ¬ (a = 0 ∧ i = 17) ∧ ¬ (a = 0 ∧ i = 18) ∧ ¬ (a = 0 ∧ i = 3) ∧ ¬ (a = 0 ∧ i = 30) ∧ ¬ (a = 1 ∧ i = (σ 0 3)) ∧ ¬ (a = 2 ∧ 12 * (σ 0 3) ≤ i ∧ i < 12 * (σ 0 3) + 12) ∧ ¬ (a = 3 ∧ i = (σ 0 3)) ∧ ¬ (a = 4 ∧ i = (σ 0 3)) ∧ ¬ (a = 5 ∧ i = (σ 0 3)) ∧ ¬ (a = 6 ∧ 18 * (σ 0 3) ≤ i ∧ i < 18 * (σ 0 3) + 18) ∧ ¬ (a = 7 ∧ i = (σ 0 3)) ∧ a ≠ 8 ∧ a ≠ 9) → σ41 a i = σ a i := fun a i h => by rw [eσ41, zq_up_ne h.2.2.2.2.1]; exact hFσ11 a i h
      have Mσ41 : zx_M σ41 := zx_M_fr (fun i => by rw [eσ41]; exact zq_up_ne (by omega)) (by rw [eσ41]; exact zq_up_ne (by omega)) (by rw [eσ41]; exact zq_up_ne (by omega)) (by rw [eσ41]; exact zq_up_ne (by omega)) Mσ11
      have Oσ41 : zx_O σ41 := zx_O_fr (fun i => by rw [eσ41]; exact zq_up_ne (by omega)) (fun i => by rw [eσ41]; exact zq_up_ne (by omega)) (fun i => by rw [eσ41]; exact zq_up_ne (by omega)) (by rw [eσ41]; exact zq_up_ne (by omega)) (by rw [eσ41]; exact zq_up_ne (by omega)) Oσ11
      have Tσ41 : zx_TK σ41 := zx_TK_fr (fun i => by rw [eσ41]; exact zq_up_ne (by omega)) (by rw [eσ41]; exact zq_up_ne (by omega)) Tσ11
      have Wσ41 : zx_W σ41 := zx_W_fr (fun i => by rw [eσ41]; exact zq_up_ne (by omega)) (by rw [eσ41]; exact zq_up_ne (by omega)) (by rw [eσ41]; exact zq_up_ne (by omega)) (by rw [eσ41]; exact zq_up_ne (by omega)) (fun i => by rw [eσ41]; exact zq_up_ne (by omega)) Wσ11
      refine zr_bipush (pc := 44) hV (-2) dX12_order_44 (by decide) ?_
      have t32 := zx_g14 hσ41
      have t33 : σ41 0 14 = σ11 0 14 := by rw [eσ41]; exact zq_up_ne (by omega)
      have t34 : σ11 0 14 = 0 := by rw [eσ11]; exact zq_up_same _ _ _ _
      exact zr_iret (pc := 46) hV dX12_order_46 rfl rfl ⟨_, rfl, ⟨by decide, by decide⟩, hσ41, hFσ41, (by omega), (show zt_ro σ σ41 ((-2) : Int) from (by have v := wσ5.1 (by omega); exact ⟨fun d => absurd d v.1, fun _ nk => absurd v.2.1 nk, fun _ _ => ⟨zt_cR_fr (by rw [eσ41, zq_up_ne (by omega), eσ11, zq_up_ne (by omega)]) (fun i => by rw [eσ41, zq_up_ne (by omega), eσ11, zq_up_ne (by omega)]) (by rw [eσ41, zq_up_ne (by omega), eσ11, zq_up_ne (by omega)]) (by rw [eσ41, zq_up_ne (by omega), eσ11, zq_up_ne (by omega)]) (by rw [eσ41, zq_up_ne (by omega), eσ11, zq_up_ne (by omega)]) (fun i => by rw [eσ41, zq_up_ne (by omega), eσ11, zq_up_ne (by omega)]) (by rw [eσ41, zq_up_ne (by omega), eσ11, zq_up_ne (by omega)]) v.2.2.1, r31, zt_sw_fr (fun i => by rw [eσ41, zq_up_ne (by omega)]) (by rw [eσ41, zq_up_ne (by omega)]) sw31, fun _ => ⟨by omega, by rw [eσ41, zq_up_same], by rw [eσ41, zq_up_ne (by omega)]; exact z3⟩, fun h => absurd h (by omega)⟩⟩)), Mσ41, Oσ41, Tσ41, Wσ41⟩
  · show V 18 [some (ZR 0), some (ZI r5), none] [] 41 σ11
    refine zr_bipush (pc := 18) hV (-20) dX12_order_18 (by decide) ?_
    refine zr_aload_n (pc := 20) hV dX12_order_20 rfl rfl ?_
    refine zr_getI (pc := 21) hV 15 dX12_order_21 fX12_200 rfl rfl rfl (by decide) ?_
    have t35 := zx_g15 hσ11
    have t36 : σ11 0 15 = σ5 0 15 := by rw [eσ11]; exact zq_up_ne (by omega)
    refine zr_isub (pc := 24) hV dX12_order_24 ?_
    have t37 := zx_g14 hσ11
    have t38 : σ11 0 14 = 0 := by rw [eσ11]; exact zq_up_same _ _ _ _
    exact zr_iret (pc := 25) hV dX12_order_25 rfl rfl ⟨_, rfl, (by omega), hσ11, hFσ11, (by omega), (show zt_ro σ σ11 ((-20) - (σ11 0 15)) from ⟨fun d => ⟨by have := (wσ5.2 (by omega)).1 d; omega, by rw [eσ11, zq_up_ne (by omega)]; exact hfσ5 0 18 (by omega), by omega⟩, fun nd nk => ⟨by have := ((wσ5.2 (by omega)).2 nd).2; omega, by rw [eσ11, zq_up_ne (by omega)]; exact hfσ5 0 18 (by omega), by omega⟩, fun nd k => absurd k ((wσ5.2 (by omega)).2 nd).1⟩), Mσ11, Oσ11, Tσ11, Wσ11⟩
