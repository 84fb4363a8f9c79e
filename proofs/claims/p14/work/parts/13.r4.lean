set_option maxHeartbeats 800000 in
theorem c_X12_field {σ : zq_S} (hσ : zx_T σ) (bits field : Int) (q0 : zq_in bits) (q1 : zq_in field) (Oσ : zx_O σ) : zq_C zx_w yX12_field cX12_field 4 (some .int) 2 47 41 41 [ZR 0, ZI bits, ZI field] σ (zq_pp σ (fun r => True)) := by
  refine zq_C_of (by decide) (Nat.le_refl _) (Nat.le_of_ble_eq_true rfl) [some (ZR 0), some (ZI bits), some (ZI field), none] rfl (fun V hV => ?_)
  show V 0 [some (ZR 0), some (ZI bits), some (ZI field), none] [] 41 σ
  refine zr_aload_n (pc := 0) hV dX12_field_0 rfl rfl ?_
  refine zr_iload_n (pc := 1) hV dX12_field_1 rfl rfl ?_
  refine zr_callVp (pc := 2) hV [ZI bits] (st := []) (c_X12_isBits (σ := σ) hσ bits (by omega)) dX12_field_2 mX12_280 rfl (by decide) (by decide) (Nat.le_of_ble_eq_true rfl) (Nat.le_refl _) (fun r2 hr2 pr2 => ?_)
  have t1 := zx_g2 hσ
  refine zr_if_eq (pc := 5) hV 20 dX12_field_5 (by decide) (by omega) (fun c2 => ?_) (fun c2 => ?_)
  · show V 20 [some (ZR 0), some (ZI bits), some (ZI field), none] [] 41 σ
    refine zr_iconst (pc := 20) hV (-1) dX12_field_20 rfl ?_
    exact zr_iret (pc := 21) hV dX12_field_21 rfl rfl ⟨rfl, _, rfl, ⟨by decide, by decide⟩, trivial⟩
  · show V 8 [some (ZR 0), some (ZI bits), some (ZI field), none] [] 41 σ
    refine zr_iload_n (pc := 8) hV dX12_field_8 rfl rfl ?_
    refine zr_i2l (pc := 9) hV dX12_field_9 (by omega) ?_
    refine zr_lconst (pc := 10) hV 0 dX12_field_10 (by decide) ?_
    refine zr_ldc2 (pc := 11) (v := 3) hV 3 dX12_field_11 kX12_174 (by decide) ?_
    refine zr_callSp (pc := 14) hV [ZL field, ZL 0, ZL 3] (st := []) (c_X12_in (σ := σ) field 0 3 (by omega) (by omega) (by omega)) dX12_field_14 mX12_170 (by decide) (Nat.le_of_ble_eq_true rfl) (Nat.le_refl _) (fun r14 hr14 pr14 => ?_)
    refine zr_if_ne (pc := 17) hV 22 dX12_field_17 (by decide) (by omega) (fun c3 => ?_) (fun c3 => ?_)
    · show V 22 [some (ZR 0), some (ZI bits), some (ZI field), none] [] 41 σ
      refine zr_aload_n (pc := 22) hV dX12_field_22 rfl rfl ?_
      refine zr_iload_n (pc := 23) hV dX12_field_23 rfl rfl ?_
      refine zr_callVp (pc := 24) hV [ZI bits] (st := []) (c_X12_orderOf (σ := σ) hσ bits (by omega)) dX12_field_24 mX12_286 rfl (by decide) (by decide) (Nat.le_of_ble_eq_true rfl) (Nat.le_refl _) (fun r24 hr24 pr24 => ?_)
      have t4 := zx_g3 hσ
      refine zr_istore_n (pc := 27) hV [some (ZR 0), some (ZI bits), some (ZI field), some (ZI r24)] dX12_field_27 rfl (by decide) rfl rfl ?_
      refine zr_iload_n (pc := 28) hV dX12_field_28 rfl rfl ?_
      refine zr_if_lt (pc := 29) hV 41 dX12_field_29 (by decide) (by omega) (fun c5 => ?_) (fun c5 => ?_)
      · show V 41 [some (ZR 0), some (ZI bits), some (ZI field), some (ZI r24)] [] 41 σ
        refine zr_bipush (pc := 41) hV (-4) dX12_field_41 (by decide) ?_
        refine zr_goto (pc := 43) hV 53 dX12_field_43 (by decide) ?_
        show V 53 [some (ZR 0), some (ZI bits), some (ZI field), some (ZI r24)] [ZI (-4)] 41 σ
        exact zr_iret (pc := 53) hV dX12_field_53 rfl rfl ⟨rfl, _, rfl, ⟨by decide, by decide⟩, trivial⟩
      · show V 32 [some (ZR 0), some (ZI bits), some (ZI field), some (ZI r24)] [] 41 σ
        refine zr_aload_n (pc := 32) hV dX12_field_32 rfl rfl ?_
        refine zr_iload_n (pc := 33) hV dX12_field_33 rfl rfl ?_
        refine zr_iload_n (pc := 34) hV dX12_field_34 rfl rfl ?_
        refine zr_callVp (pc := 35) hV [ZI r24, ZI field] (st := []) (c_X12_hasField (σ := σ) hσ r24 field (by omega) (by omega)) dX12_field_35 mX12_188 rfl (by decide) (by decide) (Nat.le_of_ble_eq_true rfl) (Nat.le_refl _) (fun r35 hr35 pr35 => ?_)
        have t6 := zx_g2 hσ
        refine zr_if_ne (pc := 38) hV 46 dX12_field_38 (by decide) (by omega) (fun c7 => ?_) (fun c7 => ?_)
        · show V 46 [some (ZR 0), some (ZI bits), some (ZI field), some (ZI r24)] [] 41 σ
          refine zr_aload_n (pc := 46) hV dX12_field_46 rfl rfl ?_
          refine zr_iload_n (pc := 47) hV dX12_field_47 rfl rfl ?_
          refine zr_iload_n (pc := 48) hV dX12_field_48 rfl rfl ?_
          refine zr_iload_n (pc := 49) hV dX12_field_49 rfl rfl ?_
          refine zr_callVp (pc := 50) hV [ZI r24, ZI bits, ZI field] (st := []) (c_X12_fieldOf (σ := σ) hσ r24 bits field (by omega) (by omega) (by omega) (Oσ r24 (by omega) (by omega)).2) dX12_field_50 mX12_289 rfl (by decide) (by decide) (Nat.le_of_ble_eq_true rfl) (Nat.le_refl _) (fun r50 hr50 pr50 => ?_)
          show V 53 [some (ZR 0), some (ZI bits), some (ZI field), some (ZI r24)] [ZI r50] 41 σ
          exact zr_iret (pc := 53) hV dX12_field_53 rfl rfl ⟨rfl, _, rfl, (by omega), trivial⟩
        · show V 41 [some (ZR 0), some (ZI bits), some (ZI field), some (ZI r24)] [] 41 σ
          refine zr_bipush (pc := 41) hV (-4) dX12_field_41 (by decide) ?_
          refine zr_goto (pc := 43) hV 53 dX12_field_43 (by decide) ?_
          show V 53 [some (ZR 0), some (ZI bits), some (ZI field), some (ZI r24)] [ZI (-4)] 41 σ
          exact zr_iret (pc := 53) hV dX12_field_53 rfl rfl ⟨rfl, _, rfl, ⟨by decide, by decide⟩, trivial⟩
    · show V 20 [some (ZR 0), some (ZI bits), some (ZI field), none] [] 41 σ
      refine zr_iconst (pc := 20) hV (-1) dX12_field_20 rfl ?_
      exact zr_iret (pc := 21) hV dX12_field_21 rfl rfl ⟨rfl, _, rfl, ⟨by decide, by decide⟩, trivial⟩
set_option maxHeartbeats 800000 in
theorem c_X12_doNarrow {σ : zq_S} (hσ : zx_T σ) (o state : Int) (q0 : state = 11 ∨ state = 12) (q1 : 0 ≤ o ∧ o ≤ 20) (q2 : σ 0 22 ≤ 3) (q3 : zx_A σ o) : zq_C zx_w yX12_doNarrow cX12_doNarrow 9 (none) 2 45 41 41 [ZR 0, ZI o, ZR state] σ (zq_pv (fun τ => zx_T τ ∧ (∀ a i : Int, (a ≠ 11 ∧ a ≠ 12) → τ a i = σ a i) ∧ (True))) := by
  refine zq_C_of (by decide) (Nat.le_refl _) (Nat.le_of_ble_eq_true rfl) [some (ZR 0), some (ZI o), some (ZR state), none, none, none, none, none, none] rfl (fun V hV => ?_)
  show V 0 [some (ZR 0), some (ZI o), some (ZR state), none, none, none, none, none, none] [] 41 σ
  refine zr_aload_n (pc := 0) hV dX12_doNarrow_0 rfl rfl ?_
  refine zr_getR (pc := 1) hV 6 3 dX12_doNarrow_1 fX12_26 rfl rfl rfl (by decide) (zx_g6 hσ) (by omega) ?_
  refine zr_iload_n (pc := 4) hV dX12_doNarrow_4 rfl rfl ?_
  refine zr_iald (pc := 5) hV dX12_doNarrow_5 rfl (by decide) rfl (by omega) ?_
  have t1 := zx_ga3 hσ o
  refine zr_if_le (pc := 6) hV 62 dX12_doNarrow_6 (by decide) (by omega) (fun c2 => ?_) (fun c2 => ?_)
  · show V 62 [some (ZR 0), some (ZI o), some (ZR state), none, none, none, none, none, none] [] 41 σ
    refine zr_iconst (pc := 62) hV 0 dX12_doNarrow_62 rfl ?_
    refine zr_istore_n (pc := 63) hV [some (ZR 0), some (ZI o), some (ZR state), some (ZI 0), none, none, none, none, none] dX12_doNarrow_63 rfl (by decide) rfl rfl ?_
    have L64 : ∀ (fuel : Nat) (x3_64 : Int) (σ_64 : zq_S), (0 ≤ x3_64 ∧ x3_64 ≤ 3) → (zx_T σ_64) → (∀ a i : Int, (a ≠ 11 ∧ a ≠ 12) → σ_64 a i = σ a i) → 3 - x3_64 < (fuel : Int) → V 64 [some (ZR 0), some (ZI o), some (ZR state), some (ZI x3_64), none, none, none, none, none] [] 41 σ_64 := by
      intro fuel
      induction fuel with
      | zero =>
        intro x3_64 σ_64 hx3_64 hσ_64 hFσ_64 hm64
        exfalso; omega
      | succ fuel ih =>
        intro x3_64 σ_64 hx3_64 hσ_64 hFσ_64 hm64
        have ih64 := ih
        show V 64 [some (ZR 0), some (ZI o), some (ZR state), some (ZI x3_64), none, none, none, none, none] [] 41 σ_64
        refine zr_iload_n (pc := 64) hV dX12_doNarrow_64 rfl rfl ?_
        refine zr_aload_n (pc := 65) hV dX12_doNarrow_65 rfl rfl ?_
        refine zr_getR (pc := 66) hV 8 5 dX12_doNarrow_66 fX12_32 rfl rfl rfl (by decide) (zx_g8 hσ_64) (by omega) ?_
        refine zr_iload_n (pc := 69) hV dX12_doNarrow_69 rfl rfl ?_
        refine zr_iald (pc := 70) hV dX12_doNarrow_70 rfl (by decide) rfl (by omega) ?_
        have t3 := zx_ga5 hσ_64 o
        have t4 : σ_64 5 o = σ 5 o := hFσ_64 _ _ (by omega)
        refine zr_icmp_ge (pc := 71) hV 253 dX12_doNarrow_71 (by decide) (by omega) (by omega) (fun c5 => ?_) (fun c5 => ?_)
        · show V 253 [some (ZR 0), some (ZI o), some (ZR state), some (ZI x3_64), none, none, none, none, none] [] 41 σ_64
          exact zr_vret (pc := 253) hV dX12_doNarrow_253 rfl rfl ⟨rfl, hσ_64, hFσ_64, trivial⟩
        · show V 74 [some (ZR 0), some (ZI o), some (ZR state), some (ZI x3_64), none, none, none, none, none] [] 41 σ_64
          refine zr_bipush (pc := 74) hV 18 dX12_doNarrow_74 (by decide) ?_
          refine zr_iload_n (pc := 76) hV dX12_doNarrow_76 rfl rfl ?_
          refine zr_imul (pc := 77) hV dX12_doNarrow_77 ?_
          refine zr_bipush (pc := 78) hV 6 dX12_doNarrow_78 (by decide) ?_
          refine zr_iload_n (pc := 80) hV dX12_doNarrow_80 rfl rfl ?_
          refine zr_imul (pc := 81) hV dX12_doNarrow_81 ?_
          refine zr_iadd (pc := 82) hV dX12_doNarrow_82 ?_
          refine zr_istore (pc := 83) hV [some (ZR 0), some (ZI o), some (ZR state), some (ZI x3_64), some (ZI ((18 * o) + (6 * x3_64))), none, none, none, none] dX12_doNarrow_83 (by decide) rfl rfl ?_
          refine zr_aload_n (pc := 85) hV dX12_doNarrow_85 rfl rfl ?_
          refine zr_aload_n (pc := 86) hV dX12_doNarrow_86 rfl rfl ?_
          refine zr_aload_n (pc := 87) hV dX12_doNarrow_87 rfl rfl ?_
          refine zr_getR (pc := 88) hV 9 6 dX12_doNarrow_88 fX12_35 rfl rfl rfl (by decide) (zx_g9 hσ_64) (by omega) ?_
          refine zr_iload (pc := 91) hV dX12_doNarrow_91 rfl ?_
          refine zr_iconst (pc := 93) hV 1 dX12_doNarrow_93 rfl ?_
          refine zr_iadd (pc := 94) hV dX12_doNarrow_94 ?_
          refine zr_iald (pc := 95) hV dX12_doNarrow_95 rfl (by decide) rfl (by omega) ?_
          have t6 := zx_ac1 hσ_64 (((18 * o) + (6 * x3_64)) + 1) (by omega)
          have t7 : σ_64 6 (((18 * o) + (6 * x3_64)) + 1) = σ 6 (((18 * o) + (6 * x3_64)) + 1) := hFσ_64 _ _ (by omega)
          refine zr_aload_n (pc := 96) hV dX12_doNarrow_96 rfl rfl ?_
          refine zr_getR (pc := 97) hV 9 6 dX12_doNarrow_97 fX12_35 rfl rfl rfl (by decide) (zx_g9 hσ_64) (by omega) ?_
          refine zr_iload (pc := 100) hV dX12_doNarrow_100 rfl ?_
          refine zr_iconst (pc := 102) hV 2 dX12_doNarrow_102 rfl ?_
          refine zr_iadd (pc := 103) hV dX12_doNarrow_103 ?_
          refine zr_iald (pc := 104) hV dX12_doNarrow_104 rfl (by decide) rfl (by omega) ?_
          have t8 := zx_ac hσ_64 (((18 * o) + (6 * x3_64)) + 2)
          have t9 : σ_64 6 (((18 * o) + (6 * x3_64)) + 2) = σ 6 (((18 * o) + (6 * x3_64)) + 2) := hFσ_64 _ _ (by omega)
          have t10 := zx_g22 hσ_64
          have t11 : σ_64 0 22 = σ 0 22 := hFσ_64 _ _ (by omega)
          refine zr_callVp (pc := 105) hV [ZR state, ZI (σ_64 6 (((18 * o) + (6 * x3_64)) + 1)), ZI (σ_64 6 (((18 * o) + (6 * x3_64)) + 2))] (st := []) (c_X12_narrowOf (σ := σ_64) hσ_64 state (σ_64 6 (((18 * o) + (6 * x3_64)) + 1)) (σ_64 6 (((18 * o) + (6 * x3_64)) + 2)) (by omega) (by omega) (by omega) (by omega)) dX12_doNarrow_105 mX12_300 rfl (by decide) (by decide) (Nat.le_of_ble_eq_true rfl) (Nat.le_refl _) (fun r105 hr105 pr105 => ?_)
          refine zr_istore (pc := 108) hV [some (ZR 0), some (ZI o), some (ZR state), some (ZI x3_64), some (ZI ((18 * o) + (6 * x3_64))), some (ZI r105), none, none, none] dX12_doNarrow_108 (by decide) rfl rfl ?_
          refine zr_aload_n (pc := 110) hV dX12_doNarrow_110 rfl rfl ?_
          refine zr_getR (pc := 111) hV 9 6 dX12_doNarrow_111 fX12_35 rfl rfl rfl (by decide) (zx_g9 hσ_64) (by omega) ?_
          refine zr_iload (pc := 114) hV dX12_doNarrow_114 rfl ?_
          refine zr_iconst (pc := 116) hV 3 dX12_doNarrow_116 rfl ?_
          refine zr_iadd (pc := 117) hV dX12_doNarrow_117 ?_
          refine zr_iald (pc := 118) hV dX12_doNarrow_118 rfl (by decide) rfl (by omega) ?_
          have t12 := zx_ac3 hσ_64 (((18 * o) + (6 * x3_64)) + 3) (by omega)
          have t13 : σ_64 6 (((18 * o) + (6 * x3_64)) + 3) = σ 6 (((18 * o) + (6 * x3_64)) + 3) := hFσ_64 _ _ (by omega)
          have J149 : ∀ (v0_149 : Int), (0 ≤ v0_149 ∧ v0_149 ≤ 3) → V 149 [some (ZR 0), some (ZI o), some (ZR state), some (ZI x3_64), some (ZI ((18 * o) + (6 * x3_64))), some (ZI r105), none, none, none] [ZI v0_149] 41 σ_64 := by
            intro v0_149 hv0_149
            show V 149 [some (ZR 0), some (ZI o), some (ZR state), some (ZI x3_64), some (ZI ((18 * o) + (6 * x3_64))), some (ZI r105), none, none, none] [ZI v0_149] 41 σ_64
            refine zr_istore (pc := 149) hV [some (ZR 0), some (ZI o), some (ZR state), some (ZI x3_64), some (ZI ((18 * o) + (6 * x3_64))), some (ZI r105), some (ZI v0_149), none, none] dX12_doNarrow_149 (by decide) rfl rfl ?_
            refine zr_aload_n (pc := 151) hV dX12_doNarrow_151 rfl rfl ?_
            refine zr_getR (pc := 152) hV 9 6 dX12_doNarrow_152 fX12_35 rfl rfl rfl (by decide) (zx_g9 hσ_64) (by omega) ?_
            refine zr_iload (pc := 155) hV dX12_doNarrow_155 rfl ?_
            refine zr_iconst (pc := 157) hV 3 dX12_doNarrow_157 rfl ?_
            refine zr_iadd (pc := 158) hV dX12_doNarrow_158 ?_
            refine zr_iald (pc := 159) hV dX12_doNarrow_159 rfl (by decide) rfl (by omega) ?_
            have t14 := zx_ac3 hσ_64 (((18 * o) + (6 * x3_64)) + 3) (by omega)
            have t15 : σ_64 6 (((18 * o) + (6 * x3_64)) + 3) = σ 6 (((18 * o) + (6 * x3_64)) + 3) := hFσ_64 _ _ (by omega)
            refine zr_iload (pc := 160) hV dX12_doNarrow_160 rfl ?_
            refine zr_iload (pc := 162) hV dX12_doNarrow_162 rfl ?_
            refine zr_callSp (pc := 164) hV [ZI (σ_64 6 (((18 * o) + (6 * x3_64)) + 3)), ZI r105, ZI v0_149] (st := []) (c_X12_reckon (σ := σ_64) (σ_64 6 (((18 * o) + (6 * x3_64)) + 3)) r105 v0_149 (by omega) (by omega) (by omega)) dX12_doNarrow_164 mX12_304 (by decide) (Nat.le_of_ble_eq_true rfl) (Nat.le_refl _) (fun r164 hr164 pr164 => ?_)
            refine zr_iconst (pc := 167) hV 3 dX12_doNarrow_167 rfl ?_
            refine zr_iand (pc := 168) hV dX12_doNarrow_168 ?_
            have t16 := zq_and_mask r164 2 3 4 (by decide) (by decide) (by decide)
            refine zr_istore (pc := 169) hV [some (ZR 0), some (ZI o), some (ZR state), some (ZI x3_64), some (ZI ((18 * o) + (6 * x3_64))), some (ZI r105), some (ZI v0_149), some (ZI (zq_and r164 3)), none] dX12_doNarrow_169 (by decide) rfl rfl ?_
            refine zr_aload_n (pc := 171) hV dX12_doNarrow_171 rfl rfl ?_
            refine zr_getR (pc := 172) hV 9 6 dX12_doNarrow_172 fX12_35 rfl rfl rfl (by decide) (zx_g9 hσ_64) (by omega) ?_
            refine zr_iload (pc := 175) hV dX12_doNarrow_175 rfl ?_
            refine zr_iald (pc := 177) hV dX12_doNarrow_177 rfl (by decide) rfl (by omega) ?_
            have t17 := zx_ac0 hσ_64 ((18 * o) + (6 * x3_64)) (by omega)
            have t18 : σ_64 6 ((18 * o) + (6 * x3_64)) = σ 6 ((18 * o) + (6 * x3_64)) := hFσ_64 _ _ (by omega)
            refine zr_istore (pc := 178) hV [some (ZR 0), some (ZI o), some (ZR state), some (ZI x3_64), some (ZI ((18 * o) + (6 * x3_64))), some (ZI r105), some (ZI v0_149), some (ZI (zq_and r164 3)), some (ZI (σ_64 6 ((18 * o) + (6 * x3_64))))] dX12_doNarrow_178 (by decide) rfl rfl ?_
            refine zr_iload (pc := 180) hV dX12_doNarrow_180 rfl ?_
            refine zr_iconst (pc := 182) hV 3 dX12_doNarrow_182 rfl ?_
            refine zr_icmp_ge (pc := 183) hV 195 dX12_doNarrow_183 (by decide) (by omega) ⟨by decide, by decide⟩ (fun c19 => ?_) (fun c19 => ?_)
            · show V 195 [some (ZR 0), some (ZI o), some (ZR state), some (ZI x3_64), some (ZI ((18 * o) + (6 * x3_64))), some (ZI r105), some (ZI v0_149), some (ZI (zq_and r164 3)), some (ZI (σ_64 6 ((18 * o) + (6 * x3_64))))] [] 41 σ_64
              refine zr_iload (pc := 195) hV dX12_doNarrow_195 rfl ?_
              refine zr_iconst (pc := 197) hV 4 dX12_doNarrow_197 rfl ?_
              refine zr_icmp_ne (pc := 198) hV 217 dX12_doNarrow_198 (by decide) (by omega) ⟨by decide, by decide⟩ (fun c20 => ?_) (fun c20 => ?_)
              · show V 217 [some (ZR 0), some (ZI o), some (ZR state), some (ZI x3_64), some (ZI ((18 * o) + (6 * x3_64))), some (ZI r105), some (ZI v0_149), some (ZI (zq_and r164 3)), some (ZI (σ_64 6 ((18 * o) + (6 * x3_64))))] [] 41 σ_64
                refine zr_iload (pc := 217) hV dX12_doNarrow_217 rfl ?_
                refine zr_iconst (pc := 219) hV 5 dX12_doNarrow_219 rfl ?_
                refine zr_icmp_ne (pc := 220) hV 231 dX12_doNarrow_220 (by decide) (by omega) ⟨by decide, by decide⟩ (fun c21 => ?_) (fun c21 => ?_)
                · show V 231 [some (ZR 0), some (ZI o), some (ZR state), some (ZI x3_64), some (ZI ((18 * o) + (6 * x3_64))), some (ZI r105), some (ZI v0_149), some (ZI (zq_and r164 3)), some (ZI (σ_64 6 ((18 * o) + (6 * x3_64))))] [] 41 σ_64
                  refine zr_aload_n (pc := 231) hV dX12_doNarrow_231 rfl rfl ?_
                  refine zr_iconst (pc := 232) hV 5 dX12_doNarrow_232 rfl ?_
                  refine zr_aload_n (pc := 233) hV dX12_doNarrow_233 rfl rfl ?_
                  refine zr_aload_n (pc := 234) hV dX12_doNarrow_234 rfl rfl ?_
                  refine zr_iload (pc := 235) hV dX12_doNarrow_235 rfl ?_
                  refine zr_bipush (pc := 237) hV 6 dX12_doNarrow_237 (by decide) ?_
                  refine zr_isub (pc := 239) hV dX12_doNarrow_239 ?_
                  have t22 := zx_g22 hσ_64
                  have t23 : σ_64 0 22 = σ 0 22 := hFσ_64 _ _ (by omega)
                  refine zr_callVp (pc := 240) hV [ZR state, ZI ((σ_64 6 ((18 * o) + (6 * x3_64))) - 6)] (st := [ZI 5, ZR state]) (c_X12_narrowOfField (σ := σ_64) hσ_64 state ((σ_64 6 ((18 * o) + (6 * x3_64))) - 6) (by omega) (by omega) (by omega)) dX12_doNarrow_240 mX12_296 rfl (by decide) (by decide) (Nat.le_of_ble_eq_true rfl) (Nat.le_refl _) (fun r240 hr240 pr240 => ?_)
                  refine zr_iadd (pc := 243) hV dX12_doNarrow_243 ?_
                  refine zr_iload (pc := 244) hV dX12_doNarrow_244 rfl ?_
                  refine zr_iast (pc := 246) hV dX12_doNarrow_246 (zx_nk q0) (by omega) rfl (by omega) (fun σ246 eσ246 => ?_)
                  have hσ246 : zx_T σ246 := zx_uan q0 eσ246 hσ_64 (by omega)
                  have hFσ246 : ∀ a i : Int, (a ≠ 11 ∧ a ≠ 12) → σ246 a i = σ a i := fun a i h => by rw [eσ246, zq_up_ne (by omega)]; exact hFσ_64 a i h
                  show V 247 [some (ZR 0), some (ZI o), some (ZR state), some (ZI x3_64), some (ZI ((18 * o) + (6 * x3_64))), some (ZI r105), some (ZI v0_149), some (ZI (zq_and r164 3)), some (ZI (σ_64 6 ((18 * o) + (6 * x3_64))))] [] 41 σ246
                  refine zr_iinc (pc := 247) hV [some (ZR 0), some (ZI o), some (ZR state), some (ZI (x3_64 + 1)), some (ZI ((18 * o) + (6 * x3_64))), some (ZI r105), some (ZI v0_149), some (ZI (zq_and r164 3)), some (ZI (σ_64 6 ((18 * o) + (6 * x3_64))))] (x3_64 + 1) dX12_doNarrow_247 rfl rfl (by decide) rfl rfl ?_
                  refine zr_goto (pc := 250) hV 64 dX12_doNarrow_250 (by decide) ?_
                  refine zr_sub (pc := 64) hV [some (ZR 0), some (ZI o), some (ZR state), some (ZI (x3_64 + 1)), none, none, none, none, none] (⟨rfl, rfl, rfl, rfl, trivial⟩) ?_
                  exact ih64 (x3_64 + 1) σ246 (by omega) hσ246 hFσ246 (by omega)
                · show V 223 [some (ZR 0), some (ZI o), some (ZR state), some (ZI x3_64), some (ZI ((18 * o) + (6 * x3_64))), some (ZI r105), some (ZI v0_149), some (ZI (zq_and r164 3)), some (ZI (σ_64 6 ((18 * o) + (6 * x3_64))))] [] 41 σ_64
                  refine zr_aload_n (pc := 223) hV dX12_doNarrow_223 rfl rfl ?_
                  refine zr_iconst (pc := 224) hV 4 dX12_doNarrow_224 rfl ?_
                  refine zr_iload (pc := 225) hV dX12_doNarrow_225 rfl ?_
                  refine zr_iast (pc := 227) hV dX12_doNarrow_227 (zx_nk q0) (by omega) rfl (by omega) (fun σ227 eσ227 => ?_)
                  have hσ227 : zx_T σ227 := zx_uan q0 eσ227 hσ_64 (by omega)
                  have hFσ227 : ∀ a i : Int, (a ≠ 11 ∧ a ≠ 12) → σ227 a i = σ a i := fun a i h => by rw [eσ227, zq_up_ne (by omega)]; exact hFσ_64 a i h
                  refine zr_goto (pc := 228) hV 247 dX12_doNarrow_228 (by decide) ?_
                  show V 247 [some (ZR 0), some (ZI o), some (ZR state), some (ZI x3_64), some (ZI ((18 * o) + (6 * x3_64))), some (ZI r105), some (ZI v0_149), some (ZI (zq_and r164 3)), some (ZI (σ_64 6 ((18 * o) + (6 * x3_64))))] [] 41 σ227
                  refine zr_iinc (pc := 247) hV [some (ZR 0), some (ZI o), some (ZR state), some (ZI (x3_64 + 1)), some (ZI ((18 * o) + (6 * x3_64))), some (ZI r105), some (ZI v0_149), some (ZI (zq_and r164 3)), some (ZI (σ_64 6 ((18 * o) + (6 * x3_64))))] (x3_64 + 1) dX12_doNarrow_247 rfl rfl (by decide) rfl rfl ?_
                  refine zr_goto (pc := 250) hV 64 dX12_doNarrow_250 (by decide) ?_
                  refine zr_sub (pc := 64) hV [some (ZR 0), some (ZI o), some (ZR state), some (ZI (x3_64 + 1)), none, none, none, none, none] (⟨rfl, rfl, rfl, rfl, trivial⟩) ?_
                  exact ih64 (x3_64 + 1) σ227 (by omega) hσ227 hFσ227 (by omega)
              · show V 201 [some (ZR 0), some (ZI o), some (ZR state), some (ZI x3_64), some (ZI ((18 * o) + (6 * x3_64))), some (ZI r105), some (ZI v0_149), some (ZI (zq_and r164 3)), some (ZI (σ_64 6 ((18 * o) + (6 * x3_64))))] [] 41 σ_64
                refine zr_aload_n (pc := 201) hV dX12_doNarrow_201 rfl rfl ?_
                refine zr_iconst (pc := 202) hV 3 dX12_doNarrow_202 rfl ?_
                refine zr_iload (pc := 203) hV dX12_doNarrow_203 rfl ?_
                refine zr_if_eq (pc := 205) hV 212 dX12_doNarrow_205 (by decide) (by omega) (fun c24 => ?_) (fun c24 => ?_)
                · show V 212 [some (ZR 0), some (ZI o), some (ZR state), some (ZI x3_64), some (ZI ((18 * o) + (6 * x3_64))), some (ZI r105), some (ZI v0_149), some (ZI (zq_and r164 3)), some (ZI (σ_64 6 ((18 * o) + (6 * x3_64))))] [ZI 3, ZR state] 41 σ_64
                  refine zr_iconst (pc := 212) hV 0 dX12_doNarrow_212 rfl ?_
                  show V 213 [some (ZR 0), some (ZI o), some (ZR state), some (ZI x3_64), some (ZI ((18 * o) + (6 * x3_64))), some (ZI r105), some (ZI v0_149), some (ZI (zq_and r164 3)), some (ZI (σ_64 6 ((18 * o) + (6 * x3_64))))] [ZI 0, ZI 3, ZR state] 41 σ_64
                  refine zr_iast (pc := 213) hV dX12_doNarrow_213 (zx_nk q0) (by omega) rfl (by omega) (fun σ213 eσ213 => ?_)
                  have hσ213 : zx_T σ213 := zx_uan q0 eσ213 hσ_64 (by omega)
                  have hFσ213 : ∀ a i : Int, (a ≠ 11 ∧ a ≠ 12) → σ213 a i = σ a i := fun a i h => by rw [eσ213, zq_up_ne (by omega)]; exact hFσ_64 a i h
                  refine zr_goto (pc := 214) hV 247 dX12_doNarrow_214 (by decide) ?_
                  show V 247 [some (ZR 0), some (ZI o), some (ZR state), some (ZI x3_64), some (ZI ((18 * o) + (6 * x3_64))), some (ZI r105), some (ZI v0_149), some (ZI (zq_and r164 3)), some (ZI (σ_64 6 ((18 * o) + (6 * x3_64))))] [] 41 σ213
                  refine zr_iinc (pc := 247) hV [some (ZR 0), some (ZI o), some (ZR state), some (ZI (x3_64 + 1)), some (ZI ((18 * o) + (6 * x3_64))), some (ZI r105), some (ZI v0_149), some (ZI (zq_and r164 3)), some (ZI (σ_64 6 ((18 * o) + (6 * x3_64))))] (x3_64 + 1) dX12_doNarrow_247 rfl rfl (by decide) rfl rfl ?_
                  refine zr_goto (pc := 250) hV 64 dX12_doNarrow_250 (by decide) ?_
                  refine zr_sub (pc := 64) hV [some (ZR 0), some (ZI o), some (ZR state), some (ZI (x3_64 + 1)), none, none, none, none, none] (⟨rfl, rfl, rfl, rfl, trivial⟩) ?_
                  exact ih64 (x3_64 + 1) σ213 (by omega) hσ213 hFσ213 (by omega)
                · show V 208 [some (ZR 0), some (ZI o), some (ZR state), some (ZI x3_64), some (ZI ((18 * o) + (6 * x3_64))), some (ZI r105), some (ZI v0_149), some (ZI (zq_and r164 3)), some (ZI (σ_64 6 ((18 * o) + (6 * x3_64))))] [ZI 3, ZR state] 41 σ_64
                  refine zr_iconst (pc := 208) hV 1 dX12_doNarrow_208 rfl ?_
                  refine zr_goto (pc := 209) hV 213 dX12_doNarrow_209 (by decide) ?_
                  show V 213 [some (ZR 0), some (ZI o), some (ZR state), some (ZI x3_64), some (ZI ((18 * o) + (6 * x3_64))), some (ZI r105), some (ZI v0_149), some (ZI (zq_and r164 3)), some (ZI (σ_64 6 ((18 * o) + (6 * x3_64))))] [ZI 1, ZI 3, ZR state] 41 σ_64
                  refine zr_iast (pc := 213) hV dX12_doNarrow_213 (zx_nk q0) (by omega) rfl (by omega) (fun σ213 eσ213 => ?_)
                  have hσ213 : zx_T σ213 := zx_uan q0 eσ213 hσ_64 (by omega)
                  have hFσ213 : ∀ a i : Int, (a ≠ 11 ∧ a ≠ 12) → σ213 a i = σ a i := fun a i h => by rw [eσ213, zq_up_ne (by omega)]; exact hFσ_64 a i h
                  refine zr_goto (pc := 214) hV 247 dX12_doNarrow_214 (by decide) ?_
                  show V 247 [some (ZR 0), some (ZI o), some (ZR state), some (ZI x3_64), some (ZI ((18 * o) + (6 * x3_64))), some (ZI r105), some (ZI v0_149), some (ZI (zq_and r164 3)), some (ZI (σ_64 6 ((18 * o) + (6 * x3_64))))] [] 41 σ213
                  refine zr_iinc (pc := 247) hV [some (ZR 0), some (ZI o), some (ZR state), some (ZI (x3_64 + 1)), some (ZI ((18 * o) + (6 * x3_64))), some (ZI r105), some (ZI v0_149), some (ZI (zq_and r164 3)), some (ZI (σ_64 6 ((18 * o) + (6 * x3_64))))] (x3_64 + 1) dX12_doNarrow_247 rfl rfl (by decide) rfl rfl ?_
                  refine zr_goto (pc := 250) hV 64 dX12_doNarrow_250 (by decide) ?_
                  refine zr_sub (pc := 64) hV [some (ZR 0), some (ZI o), some (ZR state), some (ZI (x3_64 + 1)), none, none, none, none, none] (⟨rfl, rfl, rfl, rfl, trivial⟩) ?_
                  exact ih64 (x3_64 + 1) σ213 (by omega) hσ213 hFσ213 (by omega)
            · show V 186 [some (ZR 0), some (ZI o), some (ZR state), some (ZI x3_64), some (ZI ((18 * o) + (6 * x3_64))), some (ZI r105), some (ZI v0_149), some (ZI (zq_and r164 3)), some (ZI (σ_64 6 ((18 * o) + (6 * x3_64))))] [] 41 σ_64
              refine zr_aload_n (pc := 186) hV dX12_doNarrow_186 rfl rfl ?_
              refine zr_iload (pc := 187) hV dX12_doNarrow_187 rfl ?_
              refine zr_iload (pc := 189) hV dX12_doNarrow_189 rfl ?_
              refine zr_iast (pc := 191) hV dX12_doNarrow_191 (zx_nk q0) (by omega) rfl (by omega) (fun σ191 eσ191 => ?_)
              have hσ191 : zx_T σ191 := zx_uan q0 eσ191 hσ_64 (by omega)
              have hFσ191 : ∀ a i : Int, (a ≠ 11 ∧ a ≠ 12) → σ191 a i = σ a i := fun a i h => by rw [eσ191, zq_up_ne (by omega)]; exact hFσ_64 a i h
              refine zr_goto (pc := 192) hV 247 dX12_doNarrow_192 (by decide) ?_
              show V 247 [some (ZR 0), some (ZI o), some (ZR state), some (ZI x3_64), some (ZI ((18 * o) + (6 * x3_64))), some (ZI r105), some (ZI v0_149), some (ZI (zq_and r164 3)), some (ZI (σ_64 6 ((18 * o) + (6 * x3_64))))] [] 41 σ191
              refine zr_iinc (pc := 247) hV [some (ZR 0), some (ZI o), some (ZR state), some (ZI (x3_64 + 1)), some (ZI ((18 * o) + (6 * x3_64))), some (ZI r105), some (ZI v0_149), some (ZI (zq_and r164 3)), some (ZI (σ_64 6 ((18 * o) + (6 * x3_64))))] (x3_64 + 1) dX12_doNarrow_247 rfl rfl (by decide) rfl rfl ?_
              refine zr_goto (pc := 250) hV 64 dX12_doNarrow_250 (by decide) ?_
              refine zr_sub (pc := 64) hV [some (ZR 0), some (ZI o), some (ZR state), some (ZI (x3_64 + 1)), none, none, none, none, none] (⟨rfl, rfl, rfl, rfl, trivial⟩) ?_
              exact ih64 (x3_64 + 1) σ191 (by omega) hσ191 hFσ191 (by omega)
          refine zr_if_le (pc := 119) hV 148 dX12_doNarrow_119 (by decide) (by omega) (fun c25 => ?_) (fun c25 => ?_)
          · show V 148 [some (ZR 0), some (ZI o), some (ZR state), some (ZI x3_64), some (ZI ((18 * o) + (6 * x3_64))), some (ZI r105), none, none, none] [] 41 σ_64
            refine zr_iconst (pc := 148) hV 0 dX12_doNarrow_148 rfl ?_
            exact J149 0 (by omega)
          · show V 122 [some (ZR 0), some (ZI o), some (ZR state), some (ZI x3_64), some (ZI ((18 * o) + (6 * x3_64))), some (ZI r105), none, none, none] [] 41 σ_64
            refine zr_aload_n (pc := 122) hV dX12_doNarrow_122 rfl rfl ?_
            refine zr_aload_n (pc := 123) hV dX12_doNarrow_123 rfl rfl ?_
            refine zr_aload_n (pc := 124) hV dX12_doNarrow_124 rfl rfl ?_
            refine zr_getR (pc := 125) hV 9 6 dX12_doNarrow_125 fX12_35 rfl rfl rfl (by decide) (zx_g9 hσ_64) (by omega) ?_
            refine zr_iload (pc := 128) hV dX12_doNarrow_128 rfl ?_
            refine zr_iconst (pc := 130) hV 4 dX12_doNarrow_130 rfl ?_
            refine zr_iadd (pc := 131) hV dX12_doNarrow_131 ?_
            refine zr_iald (pc := 132) hV dX12_doNarrow_132 rfl (by decide) rfl (by omega) ?_
            have t26 := zx_ac4 hσ_64 (((18 * o) + (6 * x3_64)) + 4) (by omega)
            have t27 : σ_64 6 (((18 * o) + (6 * x3_64)) + 4) = σ 6 (((18 * o) + (6 * x3_64)) + 4) := hFσ_64 _ _ (by omega)
            have za := q3 x3_64 (by omega) (by omega)
            refine zr_aload_n (pc := 133) hV dX12_doNarrow_133 rfl rfl ?_
            refine zr_getR (pc := 134) hV 9 6 dX12_doNarrow_134 fX12_35 rfl rfl rfl (by decide) (zx_g9 hσ_64) (by omega) ?_
            refine zr_iload (pc := 137) hV dX12_doNarrow_137 rfl ?_
            refine zr_iconst (pc := 139) hV 5 dX12_doNarrow_139 rfl ?_
            refine zr_iadd (pc := 140) hV dX12_doNarrow_140 ?_
            refine zr_iald (pc := 141) hV dX12_doNarrow_141 rfl (by decide) rfl (by omega) ?_
            have t28 := zx_ac hσ_64 (((18 * o) + (6 * x3_64)) + 5)
            have t29 : σ_64 6 (((18 * o) + (6 * x3_64)) + 5) = σ 6 (((18 * o) + (6 * x3_64)) + 5) := hFσ_64 _ _ (by omega)
            have t30 := zx_g22 hσ_64
            have t31 : σ_64 0 22 = σ 0 22 := hFσ_64 _ _ (by omega)
            refine zr_callVp (pc := 142) hV [ZR state, ZI (σ_64 6 (((18 * o) + (6 * x3_64)) + 4)), ZI (σ_64 6 (((18 * o) + (6 * x3_64)) + 5))] (st := []) (c_X12_narrowOf (σ := σ_64) hσ_64 state (σ_64 6 (((18 * o) + (6 * x3_64)) + 4)) (σ_64 6 (((18 * o) + (6 * x3_64)) + 5)) (by omega) (by omega) (by omega) (by omega)) dX12_doNarrow_142 mX12_300 rfl (by decide) (by decide) (Nat.le_of_ble_eq_true rfl) (Nat.le_refl _) (fun r142 hr142 pr142 => ?_)
            refine zr_goto (pc := 145) hV 149 dX12_doNarrow_145 (by decide) ?_
            exact J149 r142 (by omega)
    exact L64 (3 - (0 : Int) + 1 : Int).toNat 0 σ (by omega) hσ (fun a i _ => rfl) (by omega)
  · show V 9 [some (ZR 0), some (ZI o), some (ZR state), none, none, none, none, none, none] [] 41 σ
    refine zr_aload_n (pc := 9) hV dX12_doNarrow_9 rfl rfl ?_
    refine zr_getR (pc := 10) hV 7 4 dX12_doNarrow_10 fX12_29 rfl rfl rfl (by decide) (zx_g7 hσ) (by omega) ?_
    refine zr_iload_n (pc := 13) hV dX12_doNarrow_13 rfl rfl ?_
    refine zr_iald (pc := 14) hV dX12_doNarrow_14 rfl (by decide) rfl (by omega) ?_
    have t32 := zx_ga4 hσ o
    refine zr_iconst (pc := 15) hV 4 dX12_doNarrow_15 rfl ?_
    have J33 : ∀ (v0_33 : Int), (0 ≤ v0_33 ∧ v0_33 ≤ 3) → V 33 [some (ZR 0), some (ZI o), some (ZR state), none, none, none, none, none, none] [ZI v0_33] 41 σ := by
      intro v0_33 hv0_33
      show V 33 [some (ZR 0), some (ZI o), some (ZR state), none, none, none, none, none, none] [ZI v0_33] 41 σ
      refine zr_istore_n (pc := 33) hV [some (ZR 0), some (ZI o), some (ZR state), some (ZI v0_33), none, none, none, none, none] dX12_doNarrow_33 rfl (by decide) rfl rfl ?_
      refine zr_iload_n (pc := 34) hV dX12_doNarrow_34 rfl rfl ?_
      refine zr_if_eq (pc := 35) hV 42 dX12_doNarrow_35 (by decide) (by omega) (fun c33 => ?_) (fun c33 => ?_)
      · show V 42 [some (ZR 0), some (ZI o), some (ZR state), some (ZI v0_33), none, none, none, none, none] [] 41 σ
        refine zr_iconst (pc := 42) hV 0 dX12_doNarrow_42 rfl ?_
        show V 43 [some (ZR 0), some (ZI o), some (ZR state), some (ZI v0_33), none, none, none, none, none] [ZI 0] 41 σ
        refine zr_aload_n (pc := 43) hV dX12_doNarrow_43 rfl rfl ?_
        refine zr_getR (pc := 44) hV 6 3 dX12_doNarrow_44 fX12_26 rfl rfl rfl (by decide) (zx_g6 hσ) (by omega) ?_
        refine zr_iload_n (pc := 47) hV dX12_doNarrow_47 rfl rfl ?_
        refine zr_iald (pc := 48) hV dX12_doNarrow_48 rfl (by decide) rfl (by omega) ?_
        have t34 := zx_ga3 hσ o
        refine zr_iconst (pc := 49) hV 1 dX12_doNarrow_49 rfl ?_
        refine zr_icmp_ne (pc := 50) hV 57 dX12_doNarrow_50 (by decide) (by omega) ⟨by decide, by decide⟩ (fun c35 => ?_) (fun c35 => ?_)
        · show V 57 [some (ZR 0), some (ZI o), some (ZR state), some (ZI v0_33), none, none, none, none, none] [ZI 0] 41 σ
          refine zr_iconst (pc := 57) hV 0 dX12_doNarrow_57 rfl ?_
          show V 58 [some (ZR 0), some (ZI o), some (ZR state), some (ZI v0_33), none, none, none, none, none] [ZI 0, ZI 0] 41 σ
          refine zr_icmp_eq (pc := 58) hV 62 dX12_doNarrow_58 (by decide) ⟨by decide, by decide⟩ ⟨by decide, by decide⟩ (fun c36 => ?_) (fun c36 => ?_)
          · show V 62 [some (ZR 0), some (ZI o), some (ZR state), some (ZI v0_33), none, none, none, none, none] [] 41 σ
            refine zr_iconst (pc := 62) hV 0 dX12_doNarrow_62 rfl ?_
            refine zr_istore_n (pc := 63) hV [some (ZR 0), some (ZI o), some (ZR state), some (ZI 0), none, none, none, none, none] dX12_doNarrow_63 rfl (by decide) rfl rfl ?_
            have L64 : ∀ (fuel : Nat) (x3_64 : Int) (σ_64 : zq_S), (0 ≤ x3_64 ∧ x3_64 ≤ 3) → (zx_T σ_64) → (∀ a i : Int, (a ≠ 11 ∧ a ≠ 12) → σ_64 a i = σ a i) → 3 - x3_64 < (fuel : Int) → V 64 [some (ZR 0), some (ZI o), some (ZR state), some (ZI x3_64), none, none, none, none, none] [] 41 σ_64 := by
              intro fuel
              induction fuel with
              | zero =>
                intro x3_64 σ_64 hx3_64 hσ_64 hFσ_64 hm64
                exfalso; omega
              | succ fuel ih =>
                intro x3_64 σ_64 hx3_64 hσ_64 hFσ_64 hm64
                have ih64 := ih
                show V 64 [some (ZR 0), some (ZI o), some (ZR state), some (ZI x3_64), none, none, none, none, none] [] 41 σ_64
                refine zr_iload_n (pc := 64) hV dX12_doNarrow_64 rfl rfl ?_
                refine zr_aload_n (pc := 65) hV dX12_doNarrow_65 rfl rfl ?_
                refine zr_getR (pc := 66) hV 8 5 dX12_doNarrow_66 fX12_32 rfl rfl rfl (by decide) (zx_g8 hσ_64) (by omega) ?_
                refine zr_iload_n (pc := 69) hV dX12_doNarrow_69 rfl rfl ?_
                refine zr_iald (pc := 70) hV dX12_doNarrow_70 rfl (by decide) rfl (by omega) ?_
                have t37 := zx_ga5 hσ_64 o
                have t38 : σ_64 5 o = σ 5 o := hFσ_64 _ _ (by omega)
                refine zr_icmp_ge (pc := 71) hV 253 dX12_doNarrow_71 (by decide) (by omega) (by omega) (fun c39 => ?_) (fun c39 => ?_)
                · show V 253 [some (ZR 0), some (ZI o), some (ZR state), some (ZI x3_64), none, none, none, none, none] [] 41 σ_64
                  exact zr_vret (pc := 253) hV dX12_doNarrow_253 rfl rfl ⟨rfl, hσ_64, hFσ_64, trivial⟩
                · show V 74 [some (ZR 0), some (ZI o), some (ZR state), some (ZI x3_64), none, none, none, none, none] [] 41 σ_64
                  refine zr_bipush (pc := 74) hV 18 dX12_doNarrow_74 (by decide) ?_
                  refine zr_iload_n (pc := 76) hV dX12_doNarrow_76 rfl rfl ?_
                  refine zr_imul (pc := 77) hV dX12_doNarrow_77 ?_
                  refine zr_bipush (pc := 78) hV 6 dX12_doNarrow_78 (by decide) ?_
                  refine zr_iload_n (pc := 80) hV dX12_doNarrow_80 rfl rfl ?_
                  refine zr_imul (pc := 81) hV dX12_doNarrow_81 ?_
                  refine zr_iadd (pc := 82) hV dX12_doNarrow_82 ?_
                  refine zr_istore (pc := 83) hV [some (ZR 0), some (ZI o), some (ZR state), some (ZI x3_64), some (ZI ((18 * o) + (6 * x3_64))), none, none, none, none] dX12_doNarrow_83 (by decide) rfl rfl ?_
                  refine zr_aload_n (pc := 85) hV dX12_doNarrow_85 rfl rfl ?_
                  refine zr_aload_n (pc := 86) hV dX12_doNarrow_86 rfl rfl ?_
                  refine zr_aload_n (pc := 87) hV dX12_doNarrow_87 rfl rfl ?_
                  refine zr_getR (pc := 88) hV 9 6 dX12_doNarrow_88 fX12_35 rfl rfl rfl (by decide) (zx_g9 hσ_64) (by omega) ?_
                  refine zr_iload (pc := 91) hV dX12_doNarrow_91 rfl ?_
                  refine zr_iconst (pc := 93) hV 1 dX12_doNarrow_93 rfl ?_
                  refine zr_iadd (pc := 94) hV dX12_doNarrow_94 ?_
                  refine zr_iald (pc := 95) hV dX12_doNarrow_95 rfl (by decide) rfl (by omega) ?_
                  have t40 := zx_ac1 hσ_64 (((18 * o) + (6 * x3_64)) + 1) (by omega)
                  have t41 : σ_64 6 (((18 * o) + (6 * x3_64)) + 1) = σ 6 (((18 * o) + (6 * x3_64)) + 1) := hFσ_64 _ _ (by omega)
                  refine zr_aload_n (pc := 96) hV dX12_doNarrow_96 rfl rfl ?_
                  refine zr_getR (pc := 97) hV 9 6 dX12_doNarrow_97 fX12_35 rfl rfl rfl (by decide) (zx_g9 hσ_64) (by omega) ?_
                  refine zr_iload (pc := 100) hV dX12_doNarrow_100 rfl ?_
                  refine zr_iconst (pc := 102) hV 2 dX12_doNarrow_102 rfl ?_
                  refine zr_iadd (pc := 103) hV dX12_doNarrow_103 ?_
                  refine zr_iald (pc := 104) hV dX12_doNarrow_104 rfl (by decide) rfl (by omega) ?_
                  have t42 := zx_ac hσ_64 (((18 * o) + (6 * x3_64)) + 2)
                  have t43 : σ_64 6 (((18 * o) + (6 * x3_64)) + 2) = σ 6 (((18 * o) + (6 * x3_64)) + 2) := hFσ_64 _ _ (by omega)
                  have t44 := zx_g22 hσ_64
                  have t45 : σ_64 0 22 = σ 0 22 := hFσ_64 _ _ (by omega)
                  refine zr_callVp (pc := 105) hV [ZR state, ZI (σ_64 6 (((18 * o) + (6 * x3_64)) + 1)), ZI (σ_64 6 (((18 * o) + (6 * x3_64)) + 2))] (st := []) (c_X12_narrowOf (σ := σ_64) hσ_64 state (σ_64 6 (((18 * o) + (6 * x3_64)) + 1)) (σ_64 6 (((18 * o) + (6 * x3_64)) + 2)) (by omega) (by omega) (by omega) (by omega)) dX12_doNarrow_105 mX12_300 rfl (by decide) (by decide) (Nat.le_of_ble_eq_true rfl) (Nat.le_refl _) (fun r105 hr105 pr105 => ?_)
                  refine zr_istore (pc := 108) hV [some (ZR 0), some (ZI o), some (ZR state), some (ZI x3_64), some (ZI ((18 * o) + (6 * x3_64))), some (ZI r105), none, none, none] dX12_doNarrow_108 (by decide) rfl rfl ?_
                  refine zr_aload_n (pc := 110) hV dX12_doNarrow_110 rfl rfl ?_
                  refine zr_getR (pc := 111) hV 9 6 dX12_doNarrow_111 fX12_35 rfl rfl rfl (by decide) (zx_g9 hσ_64) (by omega) ?_
                  refine zr_iload (pc := 114) hV dX12_doNarrow_114 rfl ?_
                  refine zr_iconst (pc := 116) hV 3 dX12_doNarrow_116 rfl ?_
                  refine zr_iadd (pc := 117) hV dX12_doNarrow_117 ?_
                  refine zr_iald (pc := 118) hV dX12_doNarrow_118 rfl (by decide) rfl (by omega) ?_
                  have t46 := zx_ac3 hσ_64 (((18 * o) + (6 * x3_64)) + 3) (by omega)
                  have t47 : σ_64 6 (((18 * o) + (6 * x3_64)) + 3) = σ 6 (((18 * o) + (6 * x3_64)) + 3) := hFσ_64 _ _ (by omega)
                  have J149 : ∀ (v0_149 : Int), (0 ≤ v0_149 ∧ v0_149 ≤ 3) → V 149 [some (ZR 0), some (ZI o), some (ZR state), some (ZI x3_64), some (ZI ((18 * o) + (6 * x3_64))), some (ZI r105), none, none, none] [ZI v0_149] 41 σ_64 := by
                    intro v0_149 hv0_149
                    show V 149 [some (ZR 0), some (ZI o), some (ZR state), some (ZI x3_64), some (ZI ((18 * o) + (6 * x3_64))), some (ZI r105), none, none, none] [ZI v0_149] 41 σ_64
                    refine zr_istore (pc := 149) hV [some (ZR 0), some (ZI o), some (ZR state), some (ZI x3_64), some (ZI ((18 * o) + (6 * x3_64))), some (ZI r105), some (ZI v0_149), none, none] dX12_doNarrow_149 (by decide) rfl rfl ?_
                    refine zr_aload_n (pc := 151) hV dX12_doNarrow_151 rfl rfl ?_
                    refine zr_getR (pc := 152) hV 9 6 dX12_doNarrow_152 fX12_35 rfl rfl rfl (by decide) (zx_g9 hσ_64) (by omega) ?_
                    refine zr_iload (pc := 155) hV dX12_doNarrow_155 rfl ?_
                    refine zr_iconst (pc := 157) hV 3 dX12_doNarrow_157 rfl ?_
                    refine zr_iadd (pc := 158) hV dX12_doNarrow_158 ?_
                    refine zr_iald (pc := 159) hV dX12_doNarrow_159 rfl (by decide) rfl (by omega) ?_
                    have t48 := zx_ac3 hσ_64 (((18 * o) + (6 * x3_64)) + 3) (by omega)
                    have t49 : σ_64 6 (((18 * o) + (6 * x3_64)) + 3) = σ 6 (((18 * o) + (6 * x3_64)) + 3) := hFσ_64 _ _ (by omega)
                    refine zr_iload (pc := 160) hV dX12_doNarrow_160 rfl ?_
                    refine zr_iload (pc := 162) hV dX12_doNarrow_162 rfl ?_
                    refine zr_callSp (pc := 164) hV [ZI (σ_64 6 (((18 * o) + (6 * x3_64)) + 3)), ZI r105, ZI v0_149] (st := []) (c_X12_reckon (σ := σ_64) (σ_64 6 (((18 * o) + (6 * x3_64)) + 3)) r105 v0_149 (by omega) (by omega) (by omega)) dX12_doNarrow_164 mX12_304 (by decide) (Nat.le_of_ble_eq_true rfl) (Nat.le_refl _) (fun r164 hr164 pr164 => ?_)
                    refine zr_iconst (pc := 167) hV 3 dX12_doNarrow_167 rfl ?_
                    refine zr_iand (pc := 168) hV dX12_doNarrow_168 ?_
                    have t50 := zq_and_mask r164 2 3 4 (by decide) (by decide) (by decide)
                    refine zr_istore (pc := 169) hV [some (ZR 0), some (ZI o), some (ZR state), some (ZI x3_64), some (ZI ((18 * o) + (6 * x3_64))), some (ZI r105), some (ZI v0_149), some (ZI (zq_and r164 3)), none] dX12_doNarrow_169 (by decide) rfl rfl ?_
                    refine zr_aload_n (pc := 171) hV dX12_doNarrow_171 rfl rfl ?_
                    refine zr_getR (pc := 172) hV 9 6 dX12_doNarrow_172 fX12_35 rfl rfl rfl (by decide) (zx_g9 hσ_64) (by omega) ?_
                    refine zr_iload (pc := 175) hV dX12_doNarrow_175 rfl ?_
                    refine zr_iald (pc := 177) hV dX12_doNarrow_177 rfl (by decide) rfl (by omega) ?_
                    have t51 := zx_ac0 hσ_64 ((18 * o) + (6 * x3_64)) (by omega)
                    have t52 : σ_64 6 ((18 * o) + (6 * x3_64)) = σ 6 ((18 * o) + (6 * x3_64)) := hFσ_64 _ _ (by omega)
                    refine zr_istore (pc := 178) hV [some (ZR 0), some (ZI o), some (ZR state), some (ZI x3_64), some (ZI ((18 * o) + (6 * x3_64))), some (ZI r105), some (ZI v0_149), some (ZI (zq_and r164 3)), some (ZI (σ_64 6 ((18 * o) + (6 * x3_64))))] dX12_doNarrow_178 (by decide) rfl rfl ?_
                    refine zr_iload (pc := 180) hV dX12_doNarrow_180 rfl ?_
                    refine zr_iconst (pc := 182) hV 3 dX12_doNarrow_182 rfl ?_
                    refine zr_icmp_ge (pc := 183) hV 195 dX12_doNarrow_183 (by decide) (by omega) ⟨by decide, by decide⟩ (fun c53 => ?_) (fun c53 => ?_)
                    · show V 195 [some (ZR 0), some (ZI o), some (ZR state), some (ZI x3_64), some (ZI ((18 * o) + (6 * x3_64))), some (ZI r105), some (ZI v0_149), some (ZI (zq_and r164 3)), some (ZI (σ_64 6 ((18 * o) + (6 * x3_64))))] [] 41 σ_64
                      refine zr_iload (pc := 195) hV dX12_doNarrow_195 rfl ?_
                      refine zr_iconst (pc := 197) hV 4 dX12_doNarrow_197 rfl ?_
                      refine zr_icmp_ne (pc := 198) hV 217 dX12_doNarrow_198 (by decide) (by omega) ⟨by decide, by decide⟩ (fun c54 => ?_) (fun c54 => ?_)
                      · show V 217 [some (ZR 0), some (ZI o), some (ZR state), some (ZI x3_64), some (ZI ((18 * o) + (6 * x3_64))), some (ZI r105), some (ZI v0_149), some (ZI (zq_and r164 3)), some (ZI (σ_64 6 ((18 * o) + (6 * x3_64))))] [] 41 σ_64
                        refine zr_iload (pc := 217) hV dX12_doNarrow_217 rfl ?_
                        refine zr_iconst (pc := 219) hV 5 dX12_doNarrow_219 rfl ?_
                        refine zr_icmp_ne (pc := 220) hV 231 dX12_doNarrow_220 (by decide) (by omega) ⟨by decide, by decide⟩ (fun c55 => ?_) (fun c55 => ?_)
                        · show V 231 [some (ZR 0), some (ZI o), some (ZR state), some (ZI x3_64), some (ZI ((18 * o) + (6 * x3_64))), some (ZI r105), some (ZI v0_149), some (ZI (zq_and r164 3)), some (ZI (σ_64 6 ((18 * o) + (6 * x3_64))))] [] 41 σ_64
                          refine zr_aload_n (pc := 231) hV dX12_doNarrow_231 rfl rfl ?_
                          refine zr_iconst (pc := 232) hV 5 dX12_doNarrow_232 rfl ?_
                          refine zr_aload_n (pc := 233) hV dX12_doNarrow_233 rfl rfl ?_
                          refine zr_aload_n (pc := 234) hV dX12_doNarrow_234 rfl rfl ?_
                          refine zr_iload (pc := 235) hV dX12_doNarrow_235 rfl ?_
                          refine zr_bipush (pc := 237) hV 6 dX12_doNarrow_237 (by decide) ?_
                          refine zr_isub (pc := 239) hV dX12_doNarrow_239 ?_
                          have t56 := zx_g22 hσ_64
                          have t57 : σ_64 0 22 = σ 0 22 := hFσ_64 _ _ (by omega)
                          refine zr_callVp (pc := 240) hV [ZR state, ZI ((σ_64 6 ((18 * o) + (6 * x3_64))) - 6)] (st := [ZI 5, ZR state]) (c_X12_narrowOfField (σ := σ_64) hσ_64 state ((σ_64 6 ((18 * o) + (6 * x3_64))) - 6) (by omega) (by omega) (by omega)) dX12_doNarrow_240 mX12_296 rfl (by decide) (by decide) (Nat.le_of_ble_eq_true rfl) (Nat.le_refl _) (fun r240 hr240 pr240 => ?_)
                          refine zr_iadd (pc := 243) hV dX12_doNarrow_243 ?_
                          refine zr_iload (pc := 244) hV dX12_doNarrow_244 rfl ?_
                          refine zr_iast (pc := 246) hV dX12_doNarrow_246 (zx_nk q0) (by omega) rfl (by omega) (fun σ246 eσ246 => ?_)
                          have hσ246 : zx_T σ246 := zx_uan q0 eσ246 hσ_64 (by omega)
                          have hFσ246 : ∀ a i : Int, (a ≠ 11 ∧ a ≠ 12) → σ246 a i = σ a i := fun a i h => by rw [eσ246, zq_up_ne (by omega)]; exact hFσ_64 a i h
                          show V 247 [some (ZR 0), some (ZI o), some (ZR state), some (ZI x3_64), some (ZI ((18 * o) + (6 * x3_64))), some (ZI r105), some (ZI v0_149), some (ZI (zq_and r164 3)), some (ZI (σ_64 6 ((18 * o) + (6 * x3_64))))] [] 41 σ246
                          refine zr_iinc (pc := 247) hV [some (ZR 0), some (ZI o), some (ZR state), some (ZI (x3_64 + 1)), some (ZI ((18 * o) + (6 * x3_64))), some (ZI r105), some (ZI v0_149), some (ZI (zq_and r164 3)), some (ZI (σ_64 6 ((18 * o) + (6 * x3_64))))] (x3_64 + 1) dX12_doNarrow_247 rfl rfl (by decide) rfl rfl ?_
                          refine zr_goto (pc := 250) hV 64 dX12_doNarrow_250 (by decide) ?_
                          refine zr_sub (pc := 64) hV [some (ZR 0), some (ZI o), some (ZR state), some (ZI (x3_64 + 1)), none, none, none, none, none] (⟨rfl, rfl, rfl, rfl, trivial⟩) ?_
                          exact ih64 (x3_64 + 1) σ246 (by omega) hσ246 hFσ246 (by omega)
                        · show V 223 [some (ZR 0), some (ZI o), some (ZR state), some (ZI x3_64), some (ZI ((18 * o) + (6 * x3_64))), some (ZI r105), some (ZI v0_149), some (ZI (zq_and r164 3)), some (ZI (σ_64 6 ((18 * o) + (6 * x3_64))))] [] 41 σ_64
                          refine zr_aload_n (pc := 223) hV dX12_doNarrow_223 rfl rfl ?_
                          refine zr_iconst (pc := 224) hV 4 dX12_doNarrow_224 rfl ?_
                          refine zr_iload (pc := 225) hV dX12_doNarrow_225 rfl ?_
                          refine zr_iast (pc := 227) hV dX12_doNarrow_227 (zx_nk q0) (by omega) rfl (by omega) (fun σ227 eσ227 => ?_)
                          have hσ227 : zx_T σ227 := zx_uan q0 eσ227 hσ_64 (by omega)
                          have hFσ227 : ∀ a i : Int, (a ≠ 11 ∧ a ≠ 12) → σ227 a i = σ a i := fun a i h => by rw [eσ227, zq_up_ne (by omega)]; exact hFσ_64 a i h
                          refine zr_goto (pc := 228) hV 247 dX12_doNarrow_228 (by decide) ?_
                          show V 247 [some (ZR 0), some (ZI o), some (ZR state), some (ZI x3_64), some (ZI ((18 * o) + (6 * x3_64))), some (ZI r105), some (ZI v0_149), some (ZI (zq_and r164 3)), some (ZI (σ_64 6 ((18 * o) + (6 * x3_64))))] [] 41 σ227
                          refine zr_iinc (pc := 247) hV [some (ZR 0), some (ZI o), some (ZR state), some (ZI (x3_64 + 1)), some (ZI ((18 * o) + (6 * x3_64))), some (ZI r105), some (ZI v0_149), some (ZI (zq_and r164 3)), some (ZI (σ_64 6 ((18 * o) + (6 * x3_64))))] (x3_64 + 1) dX12_doNarrow_247 rfl rfl (by decide) rfl rfl ?_
                          refine zr_goto (pc := 250) hV 64 dX12_doNarrow_250 (by decide) ?_
                          refine zr_sub (pc := 64) hV [some (ZR 0), some (ZI o), some (ZR state), some (ZI (x3_64 + 1)), none, none, none, none, none] (⟨rfl, rfl, rfl, rfl, trivial⟩) ?_
                          exact ih64 (x3_64 + 1) σ227 (by omega) hσ227 hFσ227 (by omega)
                      · show V 201 [some (ZR 0), some (ZI o), some (ZR state), some (ZI x3_64), some (ZI ((18 * o) + (6 * x3_64))), some (ZI r105), some (ZI v0_149), some (ZI (zq_and r164 3)), some (ZI (σ_64 6 ((18 * o) + (6 * x3_64))))] [] 41 σ_64
                        refine zr_aload_n (pc := 201) hV dX12_doNarrow_201 rfl rfl ?_
                        refine zr_iconst (pc := 202) hV 3 dX12_doNarrow_202 rfl ?_
                        refine zr_iload (pc := 203) hV dX12_doNarrow_203 rfl ?_
                        refine zr_if_eq (pc := 205) hV 212 dX12_doNarrow_205 (by decide) (by omega) (fun c58 => ?_) (fun c58 => ?_)
                        · show V 212 [some (ZR 0), some (ZI o), some (ZR state), some (ZI x3_64), some (ZI ((18 * o) + (6 * x3_64))), some (ZI r105), some (ZI v0_149), some (ZI (zq_and r164 3)), some (ZI (σ_64 6 ((18 * o) + (6 * x3_64))))] [ZI 3, ZR state] 41 σ_64
                          refine zr_iconst (pc := 212) hV 0 dX12_doNarrow_212 rfl ?_
                          show V 213 [some (ZR 0), some (ZI o), some (ZR state), some (ZI x3_64), some (ZI ((18 * o) + (6 * x3_64))), some (ZI r105), some (ZI v0_149), some (ZI (zq_and r164 3)), some (ZI (σ_64 6 ((18 * o) + (6 * x3_64))))] [ZI 0, ZI 3, ZR state] 41 σ_64
                          refine zr_iast (pc := 213) hV dX12_doNarrow_213 (zx_nk q0) (by omega) rfl (by omega) (fun σ213 eσ213 => ?_)
                          have hσ213 : zx_T σ213 := zx_uan q0 eσ213 hσ_64 (by omega)
                          have hFσ213 : ∀ a i : Int, (a ≠ 11 ∧ a ≠ 12) → σ213 a i = σ a i := fun a i h => by rw [eσ213, zq_up_ne (by omega)]; exact hFσ_64 a i h
                          refine zr_goto (pc := 214) hV 247 dX12_doNarrow_214 (by decide) ?_
                          show V 247 [some (ZR 0), some (ZI o), some (ZR state), some (ZI x3_64), some (ZI ((18 * o) + (6 * x3_64))), some (ZI r105), some (ZI v0_149), some (ZI (zq_and r164 3)), some (ZI (σ_64 6 ((18 * o) + (6 * x3_64))))] [] 41 σ213
                          refine zr_iinc (pc := 247) hV [some (ZR 0), some (ZI o), some (ZR state), some (ZI (x3_64 + 1)), some (ZI ((18 * o) + (6 * x3_64))), some (ZI r105), some (ZI v0_149), some (ZI (zq_and r164 3)), some (ZI (σ_64 6 ((18 * o) + (6 * x3_64))))] (x3_64 + 1) dX12_doNarrow_247 rfl rfl (by decide) rfl rfl ?_
                          refine zr_goto (pc := 250) hV 64 dX12_doNarrow_250 (by decide) ?_
                          refine zr_sub (pc := 64) hV [some (ZR 0), some (ZI o), some (ZR state), some (ZI (x3_64 + 1)), none, none, none, none, none] (⟨rfl, rfl, rfl, rfl, trivial⟩) ?_
                          exact ih64 (x3_64 + 1) σ213 (by omega) hσ213 hFσ213 (by omega)
                        · show V 208 [some (ZR 0), some (ZI o), some (ZR state), some (ZI x3_64), some (ZI ((18 * o) + (6 * x3_64))), some (ZI r105), some (ZI v0_149), some (ZI (zq_and r164 3)), some (ZI (σ_64 6 ((18 * o) + (6 * x3_64))))] [ZI 3, ZR state] 41 σ_64
                          refine zr_iconst (pc := 208) hV 1 dX12_doNarrow_208 rfl ?_
                          refine zr_goto (pc := 209) hV 213 dX12_doNarrow_209 (by decide) ?_
                          show V 213 [some (ZR 0), some (ZI o), some (ZR state), some (ZI x3_64), some (ZI ((18 * o) + (6 * x3_64))), some (ZI r105), some (ZI v0_149), some (ZI (zq_and r164 3)), some (ZI (σ_64 6 ((18 * o) + (6 * x3_64))))] [ZI 1, ZI 3, ZR state] 41 σ_64
                          refine zr_iast (pc := 213) hV dX12_doNarrow_213 (zx_nk q0) (by omega) rfl (by omega) (fun σ213 eσ213 => ?_)
                          have hσ213 : zx_T σ213 := zx_uan q0 eσ213 hσ_64 (by omega)
                          have hFσ213 : ∀ a i : Int, (a ≠ 11 ∧ a ≠ 12) → σ213 a i = σ a i := fun a i h => by rw [eσ213, zq_up_ne (by omega)]; exact hFσ_64 a i h
                          refine zr_goto (pc := 214) hV 247 dX12_doNarrow_214 (by decide) ?_
                          show V 247 [some (ZR 0), some (ZI o), some (ZR state), some (ZI x3_64), some (ZI ((18 * o) + (6 * x3_64))), some (ZI r105), some (ZI v0_149), some (ZI (zq_and r164 3)), some (ZI (σ_64 6 ((18 * o) + (6 * x3_64))))] [] 41 σ213
                          refine zr_iinc (pc := 247) hV [some (ZR 0), some (ZI o), some (ZR state), some (ZI (x3_64 + 1)), some (ZI ((18 * o) + (6 * x3_64))), some (ZI r105), some (ZI v0_149), some (ZI (zq_and r164 3)), some (ZI (σ_64 6 ((18 * o) + (6 * x3_64))))] (x3_64 + 1) dX12_doNarrow_247 rfl rfl (by decide) rfl rfl ?_
                          refine zr_goto (pc := 250) hV 64 dX12_doNarrow_250 (by decide) ?_
                          refine zr_sub (pc := 64) hV [some (ZR 0), some (ZI o), some (ZR state), some (ZI (x3_64 + 1)), none, none, none, none, none] (⟨rfl, rfl, rfl, rfl, trivial⟩) ?_
                          exact ih64 (x3_64 + 1) σ213 (by omega) hσ213 hFσ213 (by omega)
                    · show V 186 [some (ZR 0), some (ZI o), some (ZR state), some (ZI x3_64), some (ZI ((18 * o) + (6 * x3_64))), some (ZI r105), some (ZI v0_149), some (ZI (zq_and r164 3)), some (ZI (σ_64 6 ((18 * o) + (6 * x3_64))))] [] 41 σ_64
                      refine zr_aload_n (pc := 186) hV dX12_doNarrow_186 rfl rfl ?_
                      refine zr_iload (pc := 187) hV dX12_doNarrow_187 rfl ?_
                      refine zr_iload (pc := 189) hV dX12_doNarrow_189 rfl ?_
                      refine zr_iast (pc := 191) hV dX12_doNarrow_191 (zx_nk q0) (by omega) rfl (by omega) (fun σ191 eσ191 => ?_)
                      have hσ191 : zx_T σ191 := zx_uan q0 eσ191 hσ_64 (by omega)
                      have hFσ191 : ∀ a i : Int, (a ≠ 11 ∧ a ≠ 12) → σ191 a i = σ a i := fun a i h => by rw [eσ191, zq_up_ne (by omega)]; exact hFσ_64 a i h
                      refine zr_goto (pc := 192) hV 247 dX12_doNarrow_192 (by decide) ?_
                      show V 247 [some (ZR 0), some (ZI o), some (ZR state), some (ZI x3_64), some (ZI ((18 * o) + (6 * x3_64))), some (ZI r105), some (ZI v0_149), some (ZI (zq_and r164 3)), some (ZI (σ_64 6 ((18 * o) + (6 * x3_64))))] [] 41 σ191
                      refine zr_iinc (pc := 247) hV [some (ZR 0), some (ZI o), some (ZR state), some (ZI (x3_64 + 1)), some (ZI ((18 * o) + (6 * x3_64))), some (ZI r105), some (ZI v0_149), some (ZI (zq_and r164 3)), some (ZI (σ_64 6 ((18 * o) + (6 * x3_64))))] (x3_64 + 1) dX12_doNarrow_247 rfl rfl (by decide) rfl rfl ?_
                      refine zr_goto (pc := 250) hV 64 dX12_doNarrow_250 (by decide) ?_
                      refine zr_sub (pc := 64) hV [some (ZR 0), some (ZI o), some (ZR state), some (ZI (x3_64 + 1)), none, none, none, none, none] (⟨rfl, rfl, rfl, rfl, trivial⟩) ?_
                      exact ih64 (x3_64 + 1) σ191 (by omega) hσ191 hFσ191 (by omega)
                  refine zr_if_le (pc := 119) hV 148 dX12_doNarrow_119 (by decide) (by omega) (fun c59 => ?_) (fun c59 => ?_)
                  · show V 148 [some (ZR 0), some (ZI o), some (ZR state), some (ZI x3_64), some (ZI ((18 * o) + (6 * x3_64))), some (ZI r105), none, none, none] [] 41 σ_64
                    refine zr_iconst (pc := 148) hV 0 dX12_doNarrow_148 rfl ?_
                    exact J149 0 (by omega)
                  · show V 122 [some (ZR 0), some (ZI o), some (ZR state), some (ZI x3_64), some (ZI ((18 * o) + (6 * x3_64))), some (ZI r105), none, none, none] [] 41 σ_64
                    refine zr_aload_n (pc := 122) hV dX12_doNarrow_122 rfl rfl ?_
                    refine zr_aload_n (pc := 123) hV dX12_doNarrow_123 rfl rfl ?_
                    refine zr_aload_n (pc := 124) hV dX12_doNarrow_124 rfl rfl ?_
                    refine zr_getR (pc := 125) hV 9 6 dX12_doNarrow_125 fX12_35 rfl rfl rfl (by decide) (zx_g9 hσ_64) (by omega) ?_
                    refine zr_iload (pc := 128) hV dX12_doNarrow_128 rfl ?_
                    refine zr_iconst (pc := 130) hV 4 dX12_doNarrow_130 rfl ?_
                    refine zr_iadd (pc := 131) hV dX12_doNarrow_131 ?_
                    refine zr_iald (pc := 132) hV dX12_doNarrow_132 rfl (by decide) rfl (by omega) ?_
                    have t60 := zx_ac4 hσ_64 (((18 * o) + (6 * x3_64)) + 4) (by omega)
                    have t61 : σ_64 6 (((18 * o) + (6 * x3_64)) + 4) = σ 6 (((18 * o) + (6 * x3_64)) + 4) := hFσ_64 _ _ (by omega)
                    have za := q3 x3_64 (by omega) (by omega)
                    refine zr_aload_n (pc := 133) hV dX12_doNarrow_133 rfl rfl ?_
                    refine zr_getR (pc := 134) hV 9 6 dX12_doNarrow_134 fX12_35 rfl rfl rfl (by decide) (zx_g9 hσ_64) (by omega) ?_
                    refine zr_iload (pc := 137) hV dX12_doNarrow_137 rfl ?_
                    refine zr_iconst (pc := 139) hV 5 dX12_doNarrow_139 rfl ?_
                    refine zr_iadd (pc := 140) hV dX12_doNarrow_140 ?_
                    refine zr_iald (pc := 141) hV dX12_doNarrow_141 rfl (by decide) rfl (by omega) ?_
                    have t62 := zx_ac hσ_64 (((18 * o) + (6 * x3_64)) + 5)
                    have t63 : σ_64 6 (((18 * o) + (6 * x3_64)) + 5) = σ 6 (((18 * o) + (6 * x3_64)) + 5) := hFσ_64 _ _ (by omega)
                    have t64 := zx_g22 hσ_64
                    have t65 : σ_64 0 22 = σ 0 22 := hFσ_64 _ _ (by omega)
                    refine zr_callVp (pc := 142) hV [ZR state, ZI (σ_64 6 (((18 * o) + (6 * x3_64)) + 4)), ZI (σ_64 6 (((18 * o) + (6 * x3_64)) + 5))] (st := []) (c_X12_narrowOf (σ := σ_64) hσ_64 state (σ_64 6 (((18 * o) + (6 * x3_64)) + 4)) (σ_64 6 (((18 * o) + (6 * x3_64)) + 5)) (by omega) (by omega) (by omega) (by omega)) dX12_doNarrow_142 mX12_300 rfl (by decide) (by decide) (Nat.le_of_ble_eq_true rfl) (Nat.le_refl _) (fun r142 hr142 pr142 => ?_)
                    refine zr_goto (pc := 145) hV 149 dX12_doNarrow_145 (by decide) ?_
                    exact J149 r142 (by omega)
            exact L64 (3 - (0 : Int) + 1 : Int).toNat 0 σ (by omega) hσ (fun a i _ => rfl) (by omega)
          · exfalso; omega
        · show V 53 [some (ZR 0), some (ZI o), some (ZR state), some (ZI v0_33), none, none, none, none, none] [ZI 0] 41 σ
          refine zr_iconst (pc := 53) hV 1 dX12_doNarrow_53 rfl ?_
          refine zr_goto (pc := 54) hV 58 dX12_doNarrow_54 (by decide) ?_
          show V 58 [some (ZR 0), some (ZI o), some (ZR state), some (ZI v0_33), none, none, none, none, none] [ZI 1, ZI 0] 41 σ
          refine zr_icmp_eq (pc := 58) hV 62 dX12_doNarrow_58 (by decide) ⟨by decide, by decide⟩ ⟨by decide, by decide⟩ (fun c66 => ?_) (fun c66 => ?_)
          · exfalso; omega
          · show V 61 [some (ZR 0), some (ZI o), some (ZR state), some (ZI v0_33), none, none, none, none, none] [] 41 σ
            exact zr_vret (pc := 61) hV dX12_doNarrow_61 rfl rfl ⟨rfl, hσ, (fun a i _ => rfl), trivial⟩
      · show V 38 [some (ZR 0), some (ZI o), some (ZR state), some (ZI v0_33), none, none, none, none, none] [] 41 σ
        refine zr_iconst (pc := 38) hV 1 dX12_doNarrow_38 rfl ?_
        refine zr_goto (pc := 39) hV 43 dX12_doNarrow_39 (by decide) ?_
        show V 43 [some (ZR 0), some (ZI o), some (ZR state), some (ZI v0_33), none, none, none, none, none] [ZI 1] 41 σ
        refine zr_aload_n (pc := 43) hV dX12_doNarrow_43 rfl rfl ?_
        refine zr_getR (pc := 44) hV 6 3 dX12_doNarrow_44 fX12_26 rfl rfl rfl (by decide) (zx_g6 hσ) (by omega) ?_
        refine zr_iload_n (pc := 47) hV dX12_doNarrow_47 rfl rfl ?_
        refine zr_iald (pc := 48) hV dX12_doNarrow_48 rfl (by decide) rfl (by omega) ?_
        have t67 := zx_ga3 hσ o
        refine zr_iconst (pc := 49) hV 1 dX12_doNarrow_49 rfl ?_
        refine zr_icmp_ne (pc := 50) hV 57 dX12_doNarrow_50 (by decide) (by omega) ⟨by decide, by decide⟩ (fun c68 => ?_) (fun c68 => ?_)
        · show V 57 [some (ZR 0), some (ZI o), some (ZR state), some (ZI v0_33), none, none, none, none, none] [ZI 1] 41 σ
          refine zr_iconst (pc := 57) hV 0 dX12_doNarrow_57 rfl ?_
          show V 58 [some (ZR 0), some (ZI o), some (ZR state), some (ZI v0_33), none, none, none, none, none] [ZI 0, ZI 1] 41 σ
          refine zr_icmp_eq (pc := 58) hV 62 dX12_doNarrow_58 (by decide) ⟨by decide, by decide⟩ ⟨by decide, by decide⟩ (fun c69 => ?_) (fun c69 => ?_)
          · exfalso; omega
          · show V 61 [some (ZR 0), some (ZI o), some (ZR state), some (ZI v0_33), none, none, none, none, none] [] 41 σ
            exact zr_vret (pc := 61) hV dX12_doNarrow_61 rfl rfl ⟨rfl, hσ, (fun a i _ => rfl), trivial⟩
        · show V 53 [some (ZR 0), some (ZI o), some (ZR state), some (ZI v0_33), none, none, none, none, none] [ZI 1] 41 σ
          refine zr_iconst (pc := 53) hV 1 dX12_doNarrow_53 rfl ?_
          refine zr_goto (pc := 54) hV 58 dX12_doNarrow_54 (by decide) ?_
          show V 58 [some (ZR 0), some (ZI o), some (ZR state), some (ZI v0_33), none, none, none, none, none] [ZI 1, ZI 1] 41 σ
          refine zr_icmp_eq (pc := 58) hV 62 dX12_doNarrow_58 (by decide) ⟨by decide, by decide⟩ ⟨by decide, by decide⟩ (fun c70 => ?_) (fun c70 => ?_)
          · show V 62 [some (ZR 0), some (ZI o), some (ZR state), some (ZI v0_33), none, none, none, none, none] [] 41 σ
            refine zr_iconst (pc := 62) hV 0 dX12_doNarrow_62 rfl ?_
            refine zr_istore_n (pc := 63) hV [some (ZR 0), some (ZI o), some (ZR state), some (ZI 0), none, none, none, none, none] dX12_doNarrow_63 rfl (by decide) rfl rfl ?_
            have L64 : ∀ (fuel : Nat) (x3_64 : Int) (σ_64 : zq_S), (0 ≤ x3_64 ∧ x3_64 ≤ 3) → (zx_T σ_64) → (∀ a i : Int, (a ≠ 11 ∧ a ≠ 12) → σ_64 a i = σ a i) → 3 - x3_64 < (fuel : Int) → V 64 [some (ZR 0), some (ZI o), some (ZR state), some (ZI x3_64), none, none, none, none, none] [] 41 σ_64 := by
              intro fuel
              induction fuel with
              | zero =>
                intro x3_64 σ_64 hx3_64 hσ_64 hFσ_64 hm64
                exfalso; omega
              | succ fuel ih =>
                intro x3_64 σ_64 hx3_64 hσ_64 hFσ_64 hm64
                have ih64 := ih
                show V 64 [some (ZR 0), some (ZI o), some (ZR state), some (ZI x3_64), none, none, none, none, none] [] 41 σ_64
                refine zr_iload_n (pc := 64) hV dX12_doNarrow_64 rfl rfl ?_
                refine zr_aload_n (pc := 65) hV dX12_doNarrow_65 rfl rfl ?_
                refine zr_getR (pc := 66) hV 8 5 dX12_doNarrow_66 fX12_32 rfl rfl rfl (by decide) (zx_g8 hσ_64) (by omega) ?_
                refine zr_iload_n (pc := 69) hV dX12_doNarrow_69 rfl rfl ?_
                refine zr_iald (pc := 70) hV dX12_doNarrow_70 rfl (by decide) rfl (by omega) ?_
                have t71 := zx_ga5 hσ_64 o
                have t72 : σ_64 5 o = σ 5 o := hFσ_64 _ _ (by omega)
                refine zr_icmp_ge (pc := 71) hV 253 dX12_doNarrow_71 (by decide) (by omega) (by omega) (fun c73 => ?_) (fun c73 => ?_)
                · show V 253 [some (ZR 0), some (ZI o), some (ZR state), some (ZI x3_64), none, none, none, none, none] [] 41 σ_64
                  exact zr_vret (pc := 253) hV dX12_doNarrow_253 rfl rfl ⟨rfl, hσ_64, hFσ_64, trivial⟩
                · show V 74 [some (ZR 0), some (ZI o), some (ZR state), some (ZI x3_64), none, none, none, none, none] [] 41 σ_64
                  refine zr_bipush (pc := 74) hV 18 dX12_doNarrow_74 (by decide) ?_
                  refine zr_iload_n (pc := 76) hV dX12_doNarrow_76 rfl rfl ?_
                  refine zr_imul (pc := 77) hV dX12_doNarrow_77 ?_
                  refine zr_bipush (pc := 78) hV 6 dX12_doNarrow_78 (by decide) ?_
                  refine zr_iload_n (pc := 80) hV dX12_doNarrow_80 rfl rfl ?_
                  refine zr_imul (pc := 81) hV dX12_doNarrow_81 ?_
                  refine zr_iadd (pc := 82) hV dX12_doNarrow_82 ?_
                  refine zr_istore (pc := 83) hV [some (ZR 0), some (ZI o), some (ZR state), some (ZI x3_64), some (ZI ((18 * o) + (6 * x3_64))), none, none, none, none] dX12_doNarrow_83 (by decide) rfl rfl ?_
                  refine zr_aload_n (pc := 85) hV dX12_doNarrow_85 rfl rfl ?_
                  refine zr_aload_n (pc := 86) hV dX12_doNarrow_86 rfl rfl ?_
                  refine zr_aload_n (pc := 87) hV dX12_doNarrow_87 rfl rfl ?_
                  refine zr_getR (pc := 88) hV 9 6 dX12_doNarrow_88 fX12_35 rfl rfl rfl (by decide) (zx_g9 hσ_64) (by omega) ?_
                  refine zr_iload (pc := 91) hV dX12_doNarrow_91 rfl ?_
                  refine zr_iconst (pc := 93) hV 1 dX12_doNarrow_93 rfl ?_
                  refine zr_iadd (pc := 94) hV dX12_doNarrow_94 ?_
                  refine zr_iald (pc := 95) hV dX12_doNarrow_95 rfl (by decide) rfl (by omega) ?_
                  have t74 := zx_ac1 hσ_64 (((18 * o) + (6 * x3_64)) + 1) (by omega)
                  have t75 : σ_64 6 (((18 * o) + (6 * x3_64)) + 1) = σ 6 (((18 * o) + (6 * x3_64)) + 1) := hFσ_64 _ _ (by omega)
                  refine zr_aload_n (pc := 96) hV dX12_doNarrow_96 rfl rfl ?_
                  refine zr_getR (pc := 97) hV 9 6 dX12_doNarrow_97 fX12_35 rfl rfl rfl (by decide) (zx_g9 hσ_64) (by omega) ?_
                  refine zr_iload (pc := 100) hV dX12_doNarrow_100 rfl ?_
                  refine zr_iconst (pc := 102) hV 2 dX12_doNarrow_102 rfl ?_
                  refine zr_iadd (pc := 103) hV dX12_doNarrow_103 ?_
                  refine zr_iald (pc := 104) hV dX12_doNarrow_104 rfl (by decide) rfl (by omega) ?_
                  have t76 := zx_ac hσ_64 (((18 * o) + (6 * x3_64)) + 2)
                  have t77 : σ_64 6 (((18 * o) + (6 * x3_64)) + 2) = σ 6 (((18 * o) + (6 * x3_64)) + 2) := hFσ_64 _ _ (by omega)
                  have t78 := zx_g22 hσ_64
                  have t79 : σ_64 0 22 = σ 0 22 := hFσ_64 _ _ (by omega)
                  refine zr_callVp (pc := 105) hV [ZR state, ZI (σ_64 6 (((18 * o) + (6 * x3_64)) + 1)), ZI (σ_64 6 (((18 * o) + (6 * x3_64)) + 2))] (st := []) (c_X12_narrowOf (σ := σ_64) hσ_64 state (σ_64 6 (((18 * o) + (6 * x3_64)) + 1)) (σ_64 6 (((18 * o) + (6 * x3_64)) + 2)) (by omega) (by omega) (by omega) (by omega)) dX12_doNarrow_105 mX12_300 rfl (by decide) (by decide) (Nat.le_of_ble_eq_true rfl) (Nat.le_refl _) (fun r105 hr105 pr105 => ?_)
                  refine zr_istore (pc := 108) hV [some (ZR 0), some (ZI o), some (ZR state), some (ZI x3_64), some (ZI ((18 * o) + (6 * x3_64))), some (ZI r105), none, none, none] dX12_doNarrow_108 (by decide) rfl rfl ?_
                  refine zr_aload_n (pc := 110) hV dX12_doNarrow_110 rfl rfl ?_
                  refine zr_getR (pc := 111) hV 9 6 dX12_doNarrow_111 fX12_35 rfl rfl rfl (by decide) (zx_g9 hσ_64) (by omega) ?_
                  refine zr_iload (pc := 114) hV dX12_doNarrow_114 rfl ?_
                  refine zr_iconst (pc := 116) hV 3 dX12_doNarrow_116 rfl ?_
                  refine zr_iadd (pc := 117) hV dX12_doNarrow_117 ?_
                  refine zr_iald (pc := 118) hV dX12_doNarrow_118 rfl (by decide) rfl (by omega) ?_
                  have t80 := zx_ac3 hσ_64 (((18 * o) + (6 * x3_64)) + 3) (by omega)
                  have t81 : σ_64 6 (((18 * o) + (6 * x3_64)) + 3) = σ 6 (((18 * o) + (6 * x3_64)) + 3) := hFσ_64 _ _ (by omega)
                  have J149 : ∀ (v0_149 : Int), (0 ≤ v0_149 ∧ v0_149 ≤ 3) → V 149 [some (ZR 0), some (ZI o), some (ZR state), some (ZI x3_64), some (ZI ((18 * o) + (6 * x3_64))), some (ZI r105), none, none, none] [ZI v0_149] 41 σ_64 := by
                    intro v0_149 hv0_149
                    show V 149 [some (ZR 0), some (ZI o), some (ZR state), some (ZI x3_64), some (ZI ((18 * o) + (6 * x3_64))), some (ZI r105), none, none, none] [ZI v0_149] 41 σ_64
                    refine zr_istore (pc := 149) hV [some (ZR 0), some (ZI o), some (ZR state), some (ZI x3_64), some (ZI ((18 * o) + (6 * x3_64))), some (ZI r105), some (ZI v0_149), none, none] dX12_doNarrow_149 (by decide) rfl rfl ?_
                    refine zr_aload_n (pc := 151) hV dX12_doNarrow_151 rfl rfl ?_
                    refine zr_getR (pc := 152) hV 9 6 dX12_doNarrow_152 fX12_35 rfl rfl rfl (by decide) (zx_g9 hσ_64) (by omega) ?_
                    refine zr_iload (pc := 155) hV dX12_doNarrow_155 rfl ?_
                    refine zr_iconst (pc := 157) hV 3 dX12_doNarrow_157 rfl ?_
                    refine zr_iadd (pc := 158) hV dX12_doNarrow_158 ?_
                    refine zr_iald (pc := 159) hV dX12_doNarrow_159 rfl (by decide) rfl (by omega) ?_
                    have t82 := zx_ac3 hσ_64 (((18 * o) + (6 * x3_64)) + 3) (by omega)
                    have t83 : σ_64 6 (((18 * o) + (6 * x3_64)) + 3) = σ 6 (((18 * o) + (6 * x3_64)) + 3) := hFσ_64 _ _ (by omega)
                    refine zr_iload (pc := 160) hV dX12_doNarrow_160 rfl ?_
                    refine zr_iload (pc := 162) hV dX12_doNarrow_162 rfl ?_
                    refine zr_callSp (pc := 164) hV [ZI (σ_64 6 (((18 * o) + (6 * x3_64)) + 3)), ZI r105, ZI v0_149] (st := []) (c_X12_reckon (σ := σ_64) (σ_64 6 (((18 * o) + (6 * x3_64)) + 3)) r105 v0_149 (by omega) (by omega) (by omega)) dX12_doNarrow_164 mX12_304 (by decide) (Nat.le_of_ble_eq_true rfl) (Nat.le_refl _) (fun r164 hr164 pr164 => ?_)
                    refine zr_iconst (pc := 167) hV 3 dX12_doNarrow_167 rfl ?_
                    refine zr_iand (pc := 168) hV dX12_doNarrow_168 ?_
                    have t84 := zq_and_mask r164 2 3 4 (by decide) (by decide) (by decide)
                    refine zr_istore (pc := 169) hV [some (ZR 0), some (ZI o), some (ZR state), some (ZI x3_64), some (ZI ((18 * o) + (6 * x3_64))), some (ZI r105), some (ZI v0_149), some (ZI (zq_and r164 3)), none] dX12_doNarrow_169 (by decide) rfl rfl ?_
                    refine zr_aload_n (pc := 171) hV dX12_doNarrow_171 rfl rfl ?_
                    refine zr_getR (pc := 172) hV 9 6 dX12_doNarrow_172 fX12_35 rfl rfl rfl (by decide) (zx_g9 hσ_64) (by omega) ?_
                    refine zr_iload (pc := 175) hV dX12_doNarrow_175 rfl ?_
                    refine zr_iald (pc := 177) hV dX12_doNarrow_177 rfl (by decide) rfl (by omega) ?_
                    have t85 := zx_ac0 hσ_64 ((18 * o) + (6 * x3_64)) (by omega)
                    have t86 : σ_64 6 ((18 * o) + (6 * x3_64)) = σ 6 ((18 * o) + (6 * x3_64)) := hFσ_64 _ _ (by omega)
                    refine zr_istore (pc := 178) hV [some (ZR 0), some (ZI o), some (ZR state), some (ZI x3_64), some (ZI ((18 * o) + (6 * x3_64))), some (ZI r105), some (ZI v0_149), some (ZI (zq_and r164 3)), some (ZI (σ_64 6 ((18 * o) + (6 * x3_64))))] dX12_doNarrow_178 (by decide) rfl rfl ?_
                    refine zr_iload (pc := 180) hV dX12_doNarrow_180 rfl ?_
                    refine zr_iconst (pc := 182) hV 3 dX12_doNarrow_182 rfl ?_
                    refine zr_icmp_ge (pc := 183) hV 195 dX12_doNarrow_183 (by decide) (by omega) ⟨by decide, by decide⟩ (fun c87 => ?_) (fun c87 => ?_)
                    · show V 195 [some (ZR 0), some (ZI o), some (ZR state), some (ZI x3_64), some (ZI ((18 * o) + (6 * x3_64))), some (ZI r105), some (ZI v0_149), some (ZI (zq_and r164 3)), some (ZI (σ_64 6 ((18 * o) + (6 * x3_64))))] [] 41 σ_64
                      refine zr_iload (pc := 195) hV dX12_doNarrow_195 rfl ?_
                      refine zr_iconst (pc := 197) hV 4 dX12_doNarrow_197 rfl ?_
                      refine zr_icmp_ne (pc := 198) hV 217 dX12_doNarrow_198 (by decide) (by omega) ⟨by decide, by decide⟩ (fun c88 => ?_) (fun c88 => ?_)
                      · show V 217 [some (ZR 0), some (ZI o), some (ZR state), some (ZI x3_64), some (ZI ((18 * o) + (6 * x3_64))), some (ZI r105), some (ZI v0_149), some (ZI (zq_and r164 3)), some (ZI (σ_64 6 ((18 * o) + (6 * x3_64))))] [] 41 σ_64
                        refine zr_iload (pc := 217) hV dX12_doNarrow_217 rfl ?_
                        refine zr_iconst (pc := 219) hV 5 dX12_doNarrow_219 rfl ?_
                        refine zr_icmp_ne (pc := 220) hV 231 dX12_doNarrow_220 (by decide) (by omega) ⟨by decide, by decide⟩ (fun c89 => ?_) (fun c89 => ?_)
                        · show V 231 [some (ZR 0), some (ZI o), some (ZR state), some (ZI x3_64), some (ZI ((18 * o) + (6 * x3_64))), some (ZI r105), some (ZI v0_149), some (ZI (zq_and r164 3)), some (ZI (σ_64 6 ((18 * o) + (6 * x3_64))))] [] 41 σ_64
                          refine zr_aload_n (pc := 231) hV dX12_doNarrow_231 rfl rfl ?_
                          refine zr_iconst (pc := 232) hV 5 dX12_doNarrow_232 rfl ?_
                          refine zr_aload_n (pc := 233) hV dX12_doNarrow_233 rfl rfl ?_
                          refine zr_aload_n (pc := 234) hV dX12_doNarrow_234 rfl rfl ?_
                          refine zr_iload (pc := 235) hV dX12_doNarrow_235 rfl ?_
                          refine zr_bipush (pc := 237) hV 6 dX12_doNarrow_237 (by decide) ?_
                          refine zr_isub (pc := 239) hV dX12_doNarrow_239 ?_
                          have t90 := zx_g22 hσ_64
                          have t91 : σ_64 0 22 = σ 0 22 := hFσ_64 _ _ (by omega)
                          refine zr_callVp (pc := 240) hV [ZR state, ZI ((σ_64 6 ((18 * o) + (6 * x3_64))) - 6)] (st := [ZI 5, ZR state]) (c_X12_narrowOfField (σ := σ_64) hσ_64 state ((σ_64 6 ((18 * o) + (6 * x3_64))) - 6) (by omega) (by omega) (by omega)) dX12_doNarrow_240 mX12_296 rfl (by decide) (by decide) (Nat.le_of_ble_eq_true rfl) (Nat.le_refl _) (fun r240 hr240 pr240 => ?_)
                          refine zr_iadd (pc := 243) hV dX12_doNarrow_243 ?_
                          refine zr_iload (pc := 244) hV dX12_doNarrow_244 rfl ?_
                          refine zr_iast (pc := 246) hV dX12_doNarrow_246 (zx_nk q0) (by omega) rfl (by omega) (fun σ246 eσ246 => ?_)
                          have hσ246 : zx_T σ246 := zx_uan q0 eσ246 hσ_64 (by omega)
                          have hFσ246 : ∀ a i : Int, (a ≠ 11 ∧ a ≠ 12) → σ246 a i = σ a i := fun a i h => by rw [eσ246, zq_up_ne (by omega)]; exact hFσ_64 a i h
                          show V 247 [some (ZR 0), some (ZI o), some (ZR state), some (ZI x3_64), some (ZI ((18 * o) + (6 * x3_64))), some (ZI r105), some (ZI v0_149), some (ZI (zq_and r164 3)), some (ZI (σ_64 6 ((18 * o) + (6 * x3_64))))] [] 41 σ246
                          refine zr_iinc (pc := 247) hV [some (ZR 0), some (ZI o), some (ZR state), some (ZI (x3_64 + 1)), some (ZI ((18 * o) + (6 * x3_64))), some (ZI r105), some (ZI v0_149), some (ZI (zq_and r164 3)), some (ZI (σ_64 6 ((18 * o) + (6 * x3_64))))] (x3_64 + 1) dX12_doNarrow_247 rfl rfl (by decide) rfl rfl ?_
                          refine zr_goto (pc := 250) hV 64 dX12_doNarrow_250 (by decide) ?_
                          refine zr_sub (pc := 64) hV [some (ZR 0), some (ZI o), some (ZR state), some (ZI (x3_64 + 1)), none, none, none, none, none] (⟨rfl, rfl, rfl, rfl, trivial⟩) ?_
                          exact ih64 (x3_64 + 1) σ246 (by omega) hσ246 hFσ246 (by omega)
                        · show V 223 [some (ZR 0), some (ZI o), some (ZR state), some (ZI x3_64), some (ZI ((18 * o) + (6 * x3_64))), some (ZI r105), some (ZI v0_149), some (ZI (zq_and r164 3)), some (ZI (σ_64 6 ((18 * o) + (6 * x3_64))))] [] 41 σ_64
                          refine zr_aload_n (pc := 223) hV dX12_doNarrow_223 rfl rfl ?_
                          refine zr_iconst (pc := 224) hV 4 dX12_doNarrow_224 rfl ?_
                          refine zr_iload (pc := 225) hV dX12_doNarrow_225 rfl ?_
                          refine zr_iast (pc := 227) hV dX12_doNarrow_227 (zx_nk q0) (by omega) rfl (by omega) (fun σ227 eσ227 => ?_)
                          have hσ227 : zx_T σ227 := zx_uan q0 eσ227 hσ_64 (by omega)
                          have hFσ227 : ∀ a i : Int, (a ≠ 11 ∧ a ≠ 12) → σ227 a i = σ a i := fun a i h => by rw [eσ227, zq_up_ne (by omega)]; exact hFσ_64 a i h
                          refine zr_goto (pc := 228) hV 247 dX12_doNarrow_228 (by decide) ?_
                          show V 247 [some (ZR 0), some (ZI o), some (ZR state), some (ZI x3_64), some (ZI ((18 * o) + (6 * x3_64))), some (ZI r105), some (ZI v0_149), some (ZI (zq_and r164 3)), some (ZI (σ_64 6 ((18 * o) + (6 * x3_64))))] [] 41 σ227
                          refine zr_iinc (pc := 247) hV [some (ZR 0), some (ZI o), some (ZR state), some (ZI (x3_64 + 1)), some (ZI ((18 * o) + (6 * x3_64))), some (ZI r105), some (ZI v0_149), some (ZI (zq_and r164 3)), some (ZI (σ_64 6 ((18 * o) + (6 * x3_64))))] (x3_64 + 1) dX12_doNarrow_247 rfl rfl (by decide) rfl rfl ?_
                          refine zr_goto (pc := 250) hV 64 dX12_doNarrow_250 (by decide) ?_
                          refine zr_sub (pc := 64) hV [some (ZR 0), some (ZI o), some (ZR state), some (ZI (x3_64 + 1)), none, none, none, none, none] (⟨rfl, rfl, rfl, rfl, trivial⟩) ?_
                          exact ih64 (x3_64 + 1) σ227 (by omega) hσ227 hFσ227 (by omega)
                      · show V 201 [some (ZR 0), some (ZI o), some (ZR state), some (ZI x3_64), some (ZI ((18 * o) + (6 * x3_64))), some (ZI r105), some (ZI v0_149), some (ZI (zq_and r164 3)), some (ZI (σ_64 6 ((18 * o) + (6 * x3_64))))] [] 41 σ_64
                        refine zr_aload_n (pc := 201) hV dX12_doNarrow_201 rfl rfl ?_
                        refine zr_iconst (pc := 202) hV 3 dX12_doNarrow_202 rfl ?_
                        refine zr_iload (pc := 203) hV dX12_doNarrow_203 rfl ?_
                        refine zr_if_eq (pc := 205) hV 212 dX12_doNarrow_205 (by decide) (by omega) (fun c92 => ?_) (fun c92 => ?_)
                        · show V 212 [some (ZR 0), some (ZI o), some (ZR state), some (ZI x3_64), some (ZI ((18 * o) + (6 * x3_64))), some (ZI r105), some (ZI v0_149), some (ZI (zq_and r164 3)), some (ZI (σ_64 6 ((18 * o) + (6 * x3_64))))] [ZI 3, ZR state] 41 σ_64
                          refine zr_iconst (pc := 212) hV 0 dX12_doNarrow_212 rfl ?_
                          show V 213 [some (ZR 0), some (ZI o), some (ZR state), some (ZI x3_64), some (ZI ((18 * o) + (6 * x3_64))), some (ZI r105), some (ZI v0_149), some (ZI (zq_and r164 3)), some (ZI (σ_64 6 ((18 * o) + (6 * x3_64))))] [ZI 0, ZI 3, ZR state] 41 σ_64
                          refine zr_iast (pc := 213) hV dX12_doNarrow_213 (zx_nk q0) (by omega) rfl (by omega) (fun σ213 eσ213 => ?_)
                          have hσ213 : zx_T σ213 := zx_uan q0 eσ213 hσ_64 (by omega)
                          have hFσ213 : ∀ a i : Int, (a ≠ 11 ∧ a ≠ 12) → σ213 a i = σ a i := fun a i h => by rw [eσ213, zq_up_ne (by omega)]; exact hFσ_64 a i h
                          refine zr_goto (pc := 214) hV 247 dX12_doNarrow_214 (by decide) ?_
                          show V 247 [some (ZR 0), some (ZI o), some (ZR state), some (ZI x3_64), some (ZI ((18 * o) + (6 * x3_64))), some (ZI r105), some (ZI v0_149), some (ZI (zq_and r164 3)), some (ZI (σ_64 6 ((18 * o) + (6 * x3_64))))] [] 41 σ213
                          refine zr_iinc (pc := 247) hV [some (ZR 0), some (ZI o), some (ZR state), some (ZI (x3_64 + 1)), some (ZI ((18 * o) + (6 * x3_64))), some (ZI r105), some (ZI v0_149), some (ZI (zq_and r164 3)), some (ZI (σ_64 6 ((18 * o) + (6 * x3_64))))] (x3_64 + 1) dX12_doNarrow_247 rfl rfl (by decide) rfl rfl ?_
                          refine zr_goto (pc := 250) hV 64 dX12_doNarrow_250 (by decide) ?_
                          refine zr_sub (pc := 64) hV [some (ZR 0), some (ZI o), some (ZR state), some (ZI (x3_64 + 1)), none, none, none, none, none] (⟨rfl, rfl, rfl, rfl, trivial⟩) ?_
                          exact ih64 (x3_64 + 1) σ213 (by omega) hσ213 hFσ213 (by omega)
                        · show V 208 [some (ZR 0), some (ZI o), some (ZR state), some (ZI x3_64), some (ZI ((18 * o) + (6 * x3_64))), some (ZI r105), some (ZI v0_149), some (ZI (zq_and r164 3)), some (ZI (σ_64 6 ((18 * o) + (6 * x3_64))))] [ZI 3, ZR state] 41 σ_64
                          refine zr_iconst (pc := 208) hV 1 dX12_doNarrow_208 rfl ?_
                          refine zr_goto (pc := 209) hV 213 dX12_doNarrow_209 (by decide) ?_
                          show V 213 [some (ZR 0), some (ZI o), some (ZR state), some (ZI x3_64), some (ZI ((18 * o) + (6 * x3_64))), some (ZI r105), some (ZI v0_149), some (ZI (zq_and r164 3)), some (ZI (σ_64 6 ((18 * o) + (6 * x3_64))))] [ZI 1, ZI 3, ZR state] 41 σ_64
                          refine zr_iast (pc := 213) hV dX12_doNarrow_213 (zx_nk q0) (by omega) rfl (by omega) (fun σ213 eσ213 => ?_)
                          have hσ213 : zx_T σ213 := zx_uan q0 eσ213 hσ_64 (by omega)
                          have hFσ213 : ∀ a i : Int, (a ≠ 11 ∧ a ≠ 12) → σ213 a i = σ a i := fun a i h => by rw [eσ213, zq_up_ne (by omega)]; exact hFσ_64 a i h
                          refine zr_goto (pc := 214) hV 247 dX12_doNarrow_214 (by decide) ?_
                          show V 247 [some (ZR 0), some (ZI o), some (ZR state), some (ZI x3_64), some (ZI ((18 * o) + (6 * x3_64))), some (ZI r105), some (ZI v0_149), some (ZI (zq_and r164 3)), some (ZI (σ_64 6 ((18 * o) + (6 * x3_64))))] [] 41 σ213
                          refine zr_iinc (pc := 247) hV [some (ZR 0), some (ZI o), some (ZR state), some (ZI (x3_64 + 1)), some (ZI ((18 * o) + (6 * x3_64))), some (ZI r105), some (ZI v0_149), some (ZI (zq_and r164 3)), some (ZI (σ_64 6 ((18 * o) + (6 * x3_64))))] (x3_64 + 1) dX12_doNarrow_247 rfl rfl (by decide) rfl rfl ?_
                          refine zr_goto (pc := 250) hV 64 dX12_doNarrow_250 (by decide) ?_
                          refine zr_sub (pc := 64) hV [some (ZR 0), some (ZI o), some (ZR state), some (ZI (x3_64 + 1)), none, none, none, none, none] (⟨rfl, rfl, rfl, rfl, trivial⟩) ?_
                          exact ih64 (x3_64 + 1) σ213 (by omega) hσ213 hFσ213 (by omega)
                    · show V 186 [some (ZR 0), some (ZI o), some (ZR state), some (ZI x3_64), some (ZI ((18 * o) + (6 * x3_64))), some (ZI r105), some (ZI v0_149), some (ZI (zq_and r164 3)), some (ZI (σ_64 6 ((18 * o) + (6 * x3_64))))] [] 41 σ_64
                      refine zr_aload_n (pc := 186) hV dX12_doNarrow_186 rfl rfl ?_
                      refine zr_iload (pc := 187) hV dX12_doNarrow_187 rfl ?_
                      refine zr_iload (pc := 189) hV dX12_doNarrow_189 rfl ?_
                      refine zr_iast (pc := 191) hV dX12_doNarrow_191 (zx_nk q0) (by omega) rfl (by omega) (fun σ191 eσ191 => ?_)
                      have hσ191 : zx_T σ191 := zx_uan q0 eσ191 hσ_64 (by omega)
                      have hFσ191 : ∀ a i : Int, (a ≠ 11 ∧ a ≠ 12) → σ191 a i = σ a i := fun a i h => by rw [eσ191, zq_up_ne (by omega)]; exact hFσ_64 a i h
                      refine zr_goto (pc := 192) hV 247 dX12_doNarrow_192 (by decide) ?_
                      show V 247 [some (ZR 0), some (ZI o), some (ZR state), some (ZI x3_64), some (ZI ((18 * o) + (6 * x3_64))), some (ZI r105), some (ZI v0_149), some (ZI (zq_and r164 3)), some (ZI (σ_64 6 ((18 * o) + (6 * x3_64))))] [] 41 σ191
                      refine zr_iinc (pc := 247) hV [some (ZR 0), some (ZI o), some (ZR state), some (ZI (x3_64 + 1)), some (ZI ((18 * o) + (6 * x3_64))), some (ZI r105), some (ZI v0_149), some (ZI (zq_and r164 3)), some (ZI (σ_64 6 ((18 * o) + (6 * x3_64))))] (x3_64 + 1) dX12_doNarrow_247 rfl rfl (by decide) rfl rfl ?_
                      refine zr_goto (pc := 250) hV 64 dX12_doNarrow_250 (by decide) ?_
                      refine zr_sub (pc := 64) hV [some (ZR 0), some (ZI o), some (ZR state), some (ZI (x3_64 + 1)), none, none, none, none, none] (⟨rfl, rfl, rfl, rfl, trivial⟩) ?_
                      exact ih64 (x3_64 + 1) σ191 (by omega) hσ191 hFσ191 (by omega)
                  refine zr_if_le (pc := 119) hV 148 dX12_doNarrow_119 (by decide) (by omega) (fun c93 => ?_) (fun c93 => ?_)
                  · show V 148 [some (ZR 0), some (ZI o), some (ZR state), some (ZI x3_64), some (ZI ((18 * o) + (6 * x3_64))), some (ZI r105), none, none, none] [] 41 σ_64
                    refine zr_iconst (pc := 148) hV 0 dX12_doNarrow_148 rfl ?_
                    exact J149 0 (by omega)
                  · show V 122 [some (ZR 0), some (ZI o), some (ZR state), some (ZI x3_64), some (ZI ((18 * o) + (6 * x3_64))), some (ZI r105), none, none, none] [] 41 σ_64
                    refine zr_aload_n (pc := 122) hV dX12_doNarrow_122 rfl rfl ?_
                    refine zr_aload_n (pc := 123) hV dX12_doNarrow_123 rfl rfl ?_
                    refine zr_aload_n (pc := 124) hV dX12_doNarrow_124 rfl rfl ?_
                    refine zr_getR (pc := 125) hV 9 6 dX12_doNarrow_125 fX12_35 rfl rfl rfl (by decide) (zx_g9 hσ_64) (by omega) ?_
                    refine zr_iload (pc := 128) hV dX12_doNarrow_128 rfl ?_
                    refine zr_iconst (pc := 130) hV 4 dX12_doNarrow_130 rfl ?_
                    refine zr_iadd (pc := 131) hV dX12_doNarrow_131 ?_
                    refine zr_iald (pc := 132) hV dX12_doNarrow_132 rfl (by decide) rfl (by omega) ?_
                    have t94 := zx_ac4 hσ_64 (((18 * o) + (6 * x3_64)) + 4) (by omega)
                    have t95 : σ_64 6 (((18 * o) + (6 * x3_64)) + 4) = σ 6 (((18 * o) + (6 * x3_64)) + 4) := hFσ_64 _ _ (by omega)
                    have za := q3 x3_64 (by omega) (by omega)
                    refine zr_aload_n (pc := 133) hV dX12_doNarrow_133 rfl rfl ?_
                    refine zr_getR (pc := 134) hV 9 6 dX12_doNarrow_134 fX12_35 rfl rfl rfl (by decide) (zx_g9 hσ_64) (by omega) ?_
                    refine zr_iload (pc := 137) hV dX12_doNarrow_137 rfl ?_
                    refine zr_iconst (pc := 139) hV 5 dX12_doNarrow_139 rfl ?_
                    refine zr_iadd (pc := 140) hV dX12_doNarrow_140 ?_
                    refine zr_iald (pc := 141) hV dX12_doNarrow_141 rfl (by decide) rfl (by omega) ?_
                    have t96 := zx_ac hσ_64 (((18 * o) + (6 * x3_64)) + 5)
                    have t97 : σ_64 6 (((18 * o) + (6 * x3_64)) + 5) = σ 6 (((18 * o) + (6 * x3_64)) + 5) := hFσ_64 _ _ (by omega)
                    have t98 := zx_g22 hσ_64
                    have t99 : σ_64 0 22 = σ 0 22 := hFσ_64 _ _ (by omega)
                    refine zr_callVp (pc := 142) hV [ZR state, ZI (σ_64 6 (((18 * o) + (6 * x3_64)) + 4)), ZI (σ_64 6 (((18 * o) + (6 * x3_64)) + 5))] (st := []) (c_X12_narrowOf (σ := σ_64) hσ_64 state (σ_64 6 (((18 * o) + (6 * x3_64)) + 4)) (σ_64 6 (((18 * o) + (6 * x3_64)) + 5)) (by omega) (by omega) (by omega) (by omega)) dX12_doNarrow_142 mX12_300 rfl (by decide) (by decide) (Nat.le_of_ble_eq_true rfl) (Nat.le_refl _) (fun r142 hr142 pr142 => ?_)
                    refine zr_goto (pc := 145) hV 149 dX12_doNarrow_145 (by decide) ?_
                    exact J149 r142 (by omega)
            exact L64 (3 - (0 : Int) + 1 : Int).toNat 0 σ (by omega) hσ (fun a i _ => rfl) (by omega)
          · exfalso; omega
    refine zr_icmp_ne (pc := 16) hV 25 dX12_doNarrow_16 (by decide) (by omega) ⟨by decide, by decide⟩ (fun c100 => ?_) (fun c100 => ?_)
    · show V 25 [some (ZR 0), some (ZI o), some (ZR state), none, none, none, none, none, none] [] 41 σ
      refine zr_aload_n (pc := 25) hV dX12_doNarrow_25 rfl rfl ?_
      refine zr_aload_n (pc := 26) hV dX12_doNarrow_26 rfl rfl ?_
      refine zr_getR (pc := 27) hV 7 4 dX12_doNarrow_27 fX12_29 rfl rfl rfl (by decide) (zx_g7 hσ) (by omega) ?_
      refine zr_iload_n (pc := 30) hV dX12_doNarrow_30 rfl rfl ?_
      refine zr_iald (pc := 31) hV dX12_doNarrow_31 rfl (by decide) rfl (by omega) ?_
      have t101 := zx_ga4 hσ o
      refine zr_iald (pc := 32) hV dX12_doNarrow_32 (zx_nk q0) (by omega) rfl (by omega) ?_
      have t102 := zx_gan q0 hσ (σ 4 o)
      exact J33 (σ state (σ 4 o)) (by omega)
    · show V 19 [some (ZR 0), some (ZI o), some (ZR state), none, none, none, none, none, none] [] 41 σ
      refine zr_aload_n (pc := 19) hV dX12_doNarrow_19 rfl rfl ?_
      refine zr_iconst (pc := 20) hV 3 dX12_doNarrow_20 rfl ?_
      refine zr_iald (pc := 21) hV dX12_doNarrow_21 (zx_nk q0) (by omega) rfl (by omega) ?_
      have t103 := zx_gan q0 hσ 3
      refine zr_goto (pc := 22) hV 33 dX12_doNarrow_22 (by decide) ?_
      exact J33 (σ state 3) (by omega)

