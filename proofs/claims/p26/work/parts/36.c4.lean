set_option maxHeartbeats 800000 in
theorem c_X4_readLine {σ : zq_S} (hσ : zc_T σ)   : zq_C zc_w yX4_readLine cX4_readLine 6 (some .int) 2 43 284 284 [ZR 132] σ (zq_pi (fun r τ => zc_T τ ∧ zc_Fr [(1, 2), (1, 3)] σ τ ∧ (True))) := by
  refine zq_C_of (by decide) (Nat.le_refl _) (Nat.le_of_ble_eq_true rfl) [some (ZR 132), none, none, none, none, none] rfl (fun V hV => ?_)
  have hFσ := zc_Fr_rf [(1, 2), (1, 3)] σ
  show V 0 [some (ZR 132), none, none, none, none, none] [] 284 σ
  refine zr_aload_n (pc := 0) hV dX4_readLine_0 rfl rfl ?_
  refine zr_getR (pc := 1) hV 0 1 dX4_readLine_1 fX4_15 rfl rfl (zc_k132 zc_s132) (zc_pos zc_s132 rfl) (zc_g132_0 hσ zc_s132) (by decide) ?_
  refine zr_callVv (pc := 4) hV [] (st := []) (c_X8_rewind (σ := σ) hσ) dX4_readLine_4 mX4_60 (zc_k1 zc_s1) (zc_pos zc_s1 rfl) (by decide) (Nat.le_of_ble_eq_true rfl) (Nat.le_refl _) (fun σ4 pσ4 => ?_)
  obtain ⟨hσ4, hfσ4, pσ4⟩ := pσ4
  have hFσ4 := zc_Fc hfσ4 rfl hFσ
  refine zr_aload_n (pc := 7) hV dX4_readLine_7 rfl rfl ?_
  refine zr_getR (pc := 8) hV 1 3 dX4_readLine_8 fX4_19 rfl rfl (zc_k132 zc_s132) (zc_pos zc_s132 rfl) (zc_g132_1 hσ4 zc_s132) (by decide) ?_
  refine zr_aload_n (pc := 11) hV dX4_readLine_11 rfl rfl ?_
  refine zr_getR (pc := 12) hV 1 3 dX4_readLine_12 fX4_19 rfl rfl (zc_k132 zc_s132) (zc_pos zc_s132 rfl) (zc_g132_1 hσ4 zc_s132) (by decide) ?_
  refine zr_aload_n (pc := 15) hV dX4_readLine_15 rfl rfl ?_
  refine zr_getR (pc := 16) hV 0 1 dX4_readLine_16 fX4_15 rfl rfl (zc_k132 zc_s132) (zc_pos zc_s132 rfl) (zc_g132_0 hσ4 zc_s132) (by decide) ?_
  refine zr_callVi (pc := 19) hV [] (st := [ZR 3, ZR 3]) (c_X8_takeName (σ := σ4) hσ4) dX4_readLine_19 mX4_63 (zc_k1 zc_s1) (zc_pos zc_s1 rfl) (by decide) (Nat.le_of_ble_eq_true rfl) (Nat.le_refl _) (fun r19 σ19 hr19 pσ19 => ?_)
  obtain ⟨hσ19, hfσ19, pσ19⟩ := pσ19
  have hFσ19 := zc_Fc hfσ19 rfl hFσ4
  refine zr_callVp (pc := 22) hV [ZI r19] (st := [ZR 3]) (c_X9_nameNumber (σ := σ19) hσ19 r19 (by omega)) dX4_readLine_22 mX4_70 (zc_k3 zc_s3) (zc_pos zc_s3 rfl) (by decide) (Nat.le_of_ble_eq_true rfl) (Nat.le_refl _) (fun r22 hr22 pr22 => ?_)
  refine zr_callVr (pc := 25) hV [ZI r22] (st := []) (c_X9_numbered (σ := σ19) hσ19 r22 (by omega)) dX4_readLine_25 mX4_146 (zc_k3 zc_s3) (zc_pos zc_s3 rfl) (by decide) (Nat.le_of_ble_eq_true rfl) (Nat.le_refl _) (fun r25 pr25 => ?_)
  refine zr_astore_nQ (pc := 28) hV [some (ZR 132), some (zq_nr r25), none, none, none, none] dX4_readLine_28 rfl (by decide) rfl rfl ?_
  refine zr_aload_nQ (pc := 29) hV dX4_readLine_29 rfl rfl ?_
  by_cases c1 : r25 < 0
  · rw [zq_nr_n c1]
    refine zr_ifnonnullN (pc := 30) hV dX4_readLine_30 ?_
    show V 33 [some (ZR 132), some (ZN), none, none, none, none] [] 284 σ19
    refine zr_aload_n (pc := 33) hV dX4_readLine_33 rfl rfl ?_
    refine zr_getR (pc := 34) hV 0 1 dX4_readLine_34 fX4_15 rfl rfl (zc_k132 zc_s132) (zc_pos zc_s132 rfl) (zc_g132_0 hσ19 zc_s132) (by decide) ?_
    refine zr_callVv (pc := 37) hV [] (st := []) (c_X8_blameWord (σ := σ19) hσ19) dX4_readLine_37 mX4_74 (zc_k1 zc_s1) (zc_pos zc_s1 rfl) (by decide) (Nat.le_of_ble_eq_true rfl) (Nat.le_refl _) (fun σ37 pσ37 => ?_)
    obtain ⟨hσ37, hfσ37, pσ37⟩ := pσ37
    have hFσ37 := zc_Fc hfσ37 rfl hFσ19
    refine zr_iconst (pc := 40) hV (-1) dX4_readLine_40 rfl ?_
    exact zr_iret (pc := 41) hV dX4_readLine_41 rfl rfl ⟨_, rfl, ⟨by decide, by decide⟩, hσ37, hFσ37, trivial⟩
  · rw [zq_nr_p c1]
    have kr25 : zc_kd r25 = 4 := pr25.1 (by omega)
    have por25 := zc_pos kr25 rfl
    refine zr_ifnonnull (pc := 30) hV 42 dX4_readLine_30 (by decide) ?_
    show V 42 [some (ZR 132), some (ZR r25), none, none, none, none] [] 284 σ19
    refine zr_aload_n (pc := 42) hV dX4_readLine_42 rfl rfl ?_
    refine zr_getI (pc := 43) hV 2 dX4_readLine_43 fX4_89 rfl rfl (zc_k4 kr25) (zc_pos kr25 rfl) ?_
    have t2 := zc_g4_2 hσ19 kr25
    have t3 : σ19 r25 2 = σ4 r25 2 := hfσ19 _ _ (zc_out_at kr25 rfl)
    have t4 : σ4 r25 2 = σ r25 2 := hfσ4 _ _ (zc_out_at kr25 rfl)
    refine zr_istore_n (pc := 46) hV [some (ZR 132), some (ZR r25), some (ZI (σ19 r25 2)), none, none, none] dX4_readLine_46 rfl (by decide) rfl rfl ?_
    refine zr_iconst (pc := 47) hV 1 dX4_readLine_47 rfl ?_
    refine zr_istore_n (pc := 48) hV [some (ZR 132), some (ZR r25), some (ZI (σ19 r25 2)), some (ZI 1), none, none] dX4_readLine_48 rfl (by decide) rfl rfl ?_
    refine zr_iconst (pc := 49) hV 0 dX4_readLine_49 rfl ?_
    refine zr_istore (pc := 50) hV [some (ZR 132), some (ZR r25), some (ZI (σ19 r25 2)), some (ZI 1), some (ZI 0), none] dX4_readLine_50 (by decide) rfl rfl ?_
    have L52 : ∀ (fuel : Nat) (x2_52 : Int) (x3_52 : Int) (x4_52 : Int) (σ_52 : zq_S), ((-2147483648) ≤ x2_52 ∧ x2_52 ≤ 2147483647) → (0 ≤ x3_52 ∧ x3_52 ≤ 1) → (0 ≤ x4_52 ∧ x4_52 ≤ 4) → (zc_T σ_52) → (zc_Fr [(1, 2), (1, 3)] σ σ_52) → 4 - x4_52 < (fuel : Int) → V 52 [some (ZR 132), some (ZR r25), some (ZI x2_52), some (ZI x3_52), some (ZI x4_52), none] [] 284 σ_52 := by
      intro fuel
      induction fuel with
      | zero =>
        intro x2_52 x3_52 x4_52 σ_52 hx2_52 hx3_52 hx4_52 hσ_52 hFσ_52 hm52
        exfalso; omega
      | succ fuel ih =>
        intro x2_52 x3_52 x4_52 σ_52 hx2_52 hx3_52 hx4_52 hσ_52 hFσ_52 hm52
        have ih52 := ih
        show V 52 [some (ZR 132), some (ZR r25), some (ZI x2_52), some (ZI x3_52), some (ZI x4_52), none] [] 284 σ_52
        refine zr_iload (pc := 52) hV dX4_readLine_52 rfl ?_
        refine zr_iconst (pc := 54) hV 3 dX4_readLine_54 rfl ?_
        refine zr_icmp_gt (pc := 55) hV 132 dX4_readLine_55 (by decide) (by omega) ⟨by decide, by decide⟩ (fun c5 => ?_) (fun c5 => ?_)
        · show V 132 [some (ZR 132), some (ZR r25), some (ZI x2_52), some (ZI x3_52), some (ZI x4_52), none] [] 284 σ_52
          refine zr_aload_n (pc := 132) hV dX4_readLine_132 rfl rfl ?_
          refine zr_getR (pc := 133) hV 0 1 dX4_readLine_133 fX4_15 rfl rfl (zc_k132 zc_s132) (zc_pos zc_s132 rfl) (zc_g132_0 hσ_52 zc_s132) (by decide) ?_
          refine zr_callVi (pc := 136) hV [] (st := []) (c_X8_next (σ := σ_52) hσ_52) dX4_readLine_136 mX4_45 (zc_k1 zc_s1) (zc_pos zc_s1 rfl) (by decide) (Nat.le_of_ble_eq_true rfl) (Nat.le_refl _) (fun r136 σ136 hr136 pσ136 => ?_)
          obtain ⟨hσ136, hfσ136, pσ136⟩ := pσ136
          have hFσ136 := zc_Fc hfσ136 rfl hFσ_52
          refine zr_iconst (pc := 139) hV (-1) dX4_readLine_139 rfl ?_
          refine zr_icmp_ne (pc := 140) hV 147 dX4_readLine_140 (by decide) (by omega) ⟨by decide, by decide⟩ (fun c6 => ?_) (fun c6 => ?_)
          · show V 147 [some (ZR 132), some (ZR r25), some (ZI x2_52), some (ZI x3_52), some (ZI x4_52), none] [] 284 σ136
            refine zr_iconst (pc := 147) hV (-1) dX4_readLine_147 rfl ?_
            show V 148 [some (ZR 132), some (ZR r25), some (ZI x2_52), some (ZI x3_52), some (ZI x4_52), none] [ZI (-1)] 284 σ136
            exact zr_iret (pc := 148) hV dX4_readLine_148 rfl rfl ⟨_, rfl, ⟨by decide, by decide⟩, hσ136, hFσ136, trivial⟩
          · show V 143 [some (ZR 132), some (ZR r25), some (ZI x2_52), some (ZI x3_52), some (ZI x4_52), none] [] 284 σ136
            refine zr_iload_n (pc := 143) hV dX4_readLine_143 rfl rfl ?_
            refine zr_goto (pc := 144) hV 148 dX4_readLine_144 (by decide) ?_
            show V 148 [some (ZR 132), some (ZR r25), some (ZI x2_52), some (ZI x3_52), some (ZI x4_52), none] [ZI x2_52] 284 σ136
            exact zr_iret (pc := 148) hV dX4_readLine_148 rfl rfl ⟨_, rfl, (by omega), hσ136, hFσ136, trivial⟩
        · show V 58 [some (ZR 132), some (ZR r25), some (ZI x2_52), some (ZI x3_52), some (ZI x4_52), none] [] 284 σ_52
          refine zr_aload_n (pc := 58) hV dX4_readLine_58 rfl rfl ?_
          refine zr_iload (pc := 59) hV dX4_readLine_59 rfl ?_
          refine zr_callVp (pc := 61) hV [ZI x4_52] (st := []) (c_X3_hasField (σ := σ_52) hσ_52 r25 kr25 x4_52 (by omega)) dX4_readLine_61 mX4_99 (zc_k4 kr25) (zc_pos kr25 rfl) (by decide) (Nat.le_of_ble_eq_true rfl) (Nat.le_refl _) (fun r61 hr61 pr61 => ?_)
          refine zr_if_ne (pc := 64) hV 70 dX4_readLine_64 (by decide) (by omega) (fun c7 => ?_) (fun c7 => ?_)
          · show V 70 [some (ZR 132), some (ZR r25), some (ZI x2_52), some (ZI x3_52), some (ZI x4_52), none] [] 284 σ_52
            refine zr_iload_n (pc := 70) hV dX4_readLine_70 rfl rfl ?_
            have J88 : ∀ (σ_88 : zq_S), (zc_T σ_88) → (zc_Fr [(1, 2), (1, 3)] σ σ_88) → V 88 [some (ZR 132), some (ZR r25), some (ZI x2_52), none, some (ZI x4_52), none] [] 284 σ_88 := by
              intro σ_88 hσ_88 hFσ_88
              show V 88 [some (ZR 132), some (ZR r25), some (ZI x2_52), none, some (ZI x4_52), none] [] 284 σ_88
              refine zr_aload_n (pc := 88) hV dX4_readLine_88 rfl rfl ?_
              refine zr_getR (pc := 89) hV 0 1 dX4_readLine_89 fX4_15 rfl rfl (zc_k132 zc_s132) (zc_pos zc_s132 rfl) (zc_g132_0 hσ_88 zc_s132) (by decide) ?_
              refine zr_iconst (pc := 92) hV 1 dX4_readLine_92 rfl ?_
              refine zr_aload_n (pc := 93) hV dX4_readLine_93 rfl rfl ?_
              refine zr_iload (pc := 94) hV dX4_readLine_94 rfl ?_
              refine zr_callVp (pc := 96) hV [ZI x4_52] (st := [ZI 1, ZR 1]) (c_X3_fieldBits (σ := σ_88) hσ_88 r25 kr25 x4_52 (by omega)) dX4_readLine_96 mX4_102 (zc_k4 kr25) (zc_pos kr25 rfl) (by decide) (Nat.le_of_ble_eq_true rfl) (Nat.le_refl _) (fun r96 hr96 pr96 => ?_)
              refine zr_ishl (pc := 99) hV dX4_readLine_99 ?_
              have t8 := zq_shl_in 1 r96
              refine zr_iconst (pc := 100) hV 1 dX4_readLine_100 rfl ?_
              refine zr_isub (pc := 101) hV dX4_readLine_101 ?_
              refine zr_any (pc := 102) hV (fun y102 hy102 _ => ?_)
              refine zr_callVi (pc := 102) hV [ZI y102] (st := []) (c_X8_takeNumber (σ := σ_88) hσ_88 y102 (by omega)) dX4_readLine_102 mX4_137 (zc_k1 zc_s1) (zc_pos zc_s1 rfl) (by decide) (Nat.le_of_ble_eq_true rfl) (Nat.le_refl _) (fun r102 σ102 hr102 pσ102 => ?_)
              obtain ⟨hσ102, hfσ102, pσ102⟩ := pσ102
              have hFσ102 := zc_Fc hfσ102 rfl hFσ_88
              refine zr_istore (pc := 105) hV [some (ZR 132), some (ZR r25), some (ZI x2_52), none, some (ZI x4_52), some (ZI r102)] dX4_readLine_105 (by decide) rfl rfl ?_
              refine zr_iload (pc := 107) hV dX4_readLine_107 rfl ?_
              refine zr_if_ge (pc := 109) hV 114 dX4_readLine_109 (by decide) (by omega) (fun c9 => ?_) (fun c9 => ?_)
              · show V 114 [some (ZR 132), some (ZR r25), some (ZI x2_52), none, some (ZI x4_52), some (ZI r102)] [] 284 σ102
                refine zr_aload_n (pc := 114) hV dX4_readLine_114 rfl rfl ?_
                refine zr_iload_n (pc := 115) hV dX4_readLine_115 rfl rfl ?_
                refine zr_iload (pc := 116) hV dX4_readLine_116 rfl ?_
                refine zr_iload (pc := 118) hV dX4_readLine_118 rfl ?_
                refine zr_callVp (pc := 120) hV [ZI x2_52, ZI x4_52, ZI r102] (st := []) (c_X3_withField (σ := σ102) hσ102 r25 kr25 x2_52 x4_52 r102 (by omega) (by omega) (by omega)) dX4_readLine_120 mX4_150 (zc_k4 kr25) (zc_pos kr25 rfl) (by decide) (Nat.le_of_ble_eq_true rfl) (Nat.le_refl _) (fun r120 hr120 pr120 => ?_)
                refine zr_istore_n (pc := 123) hV [some (ZR 132), some (ZR r25), some (ZI r120), none, some (ZI x4_52), some (ZI r102)] dX4_readLine_123 rfl (by decide) rfl rfl ?_
                refine zr_iconst (pc := 124) hV 0 dX4_readLine_124 rfl ?_
                refine zr_istore_n (pc := 125) hV [some (ZR 132), some (ZR r25), some (ZI r120), some (ZI 0), some (ZI x4_52), some (ZI r102)] dX4_readLine_125 rfl (by decide) rfl rfl ?_
                show V 126 [some (ZR 132), some (ZR r25), some (ZI r120), some (ZI 0), some (ZI x4_52), some (ZI r102)] [] 284 σ102
                refine zr_iinc (pc := 126) hV [some (ZR 132), some (ZR r25), some (ZI r120), some (ZI 0), some (ZI (x4_52 + 1)), some (ZI r102)] (x4_52 + 1) dX4_readLine_126 rfl rfl (by decide) rfl rfl ?_
                refine zr_goto (pc := 129) hV 52 dX4_readLine_129 (by decide) ?_
                refine zr_sub (pc := 52) hV [some (ZR 132), some (ZR r25), some (ZI r120), some (ZI 0), some (ZI (x4_52 + 1)), none] (⟨rfl, rfl, rfl, rfl, rfl, trivial⟩) ?_
                exact ih52 r120 0 (x4_52 + 1) σ102 (by omega) (by omega) (by omega) hσ102 hFσ102 (by omega)
              · show V 112 [some (ZR 132), some (ZR r25), some (ZI x2_52), none, some (ZI x4_52), some (ZI r102)] [] 284 σ102
                refine zr_iconst (pc := 112) hV (-1) dX4_readLine_112 rfl ?_
                exact zr_iret (pc := 113) hV dX4_readLine_113 rfl rfl ⟨_, rfl, ⟨by decide, by decide⟩, hσ102, hFσ102, trivial⟩
            refine zr_if_ne (pc := 71) hV 88 dX4_readLine_71 (by decide) (by omega) (fun c10 => ?_) (fun c10 => ?_)
            · refine zr_sub (pc := 88) hV [some (ZR 132), some (ZR r25), some (ZI x2_52), none, some (ZI x4_52), none] (⟨rfl, rfl, rfl, rfl, trivial⟩) ?_
              exact J88 σ_52 hσ_52 hFσ_52
            · show V 74 [some (ZR 132), some (ZR r25), some (ZI x2_52), some (ZI x3_52), some (ZI x4_52), none] [] 284 σ_52
              refine zr_aload_n (pc := 74) hV dX4_readLine_74 rfl rfl ?_
              refine zr_getR (pc := 75) hV 0 1 dX4_readLine_75 fX4_15 rfl rfl (zc_k132 zc_s132) (zc_pos zc_s132 rfl) (zc_g132_0 hσ_52 zc_s132) (by decide) ?_
              refine zr_bipush (pc := 78) hV 44 dX4_readLine_78 (by decide) ?_
              refine zr_callVi (pc := 80) hV [ZI 44] (st := []) (c_X8_takes (σ := σ_52) hσ_52 44 (by omega)) dX4_readLine_80 mX4_27 (zc_k1 zc_s1) (zc_pos zc_s1 rfl) (by decide) (Nat.le_of_ble_eq_true rfl) (Nat.le_refl _) (fun r80 σ80 hr80 pσ80 => ?_)
              obtain ⟨hσ80, hfσ80, pσ80⟩ := pσ80
              have hFσ80 := zc_Fc hfσ80 rfl hFσ_52
              refine zr_if_ne (pc := 83) hV 88 dX4_readLine_83 (by decide) (by omega) (fun c11 => ?_) (fun c11 => ?_)
              · refine zr_sub (pc := 88) hV [some (ZR 132), some (ZR r25), some (ZI x2_52), none, some (ZI x4_52), none] (⟨rfl, rfl, rfl, rfl, trivial⟩) ?_
                exact J88 σ80 hσ80 hFσ80
              · show V 86 [some (ZR 132), some (ZR r25), some (ZI x2_52), some (ZI x3_52), some (ZI x4_52), none] [] 284 σ80
                refine zr_iconst (pc := 86) hV (-1) dX4_readLine_86 rfl ?_
                exact zr_iret (pc := 87) hV dX4_readLine_87 rfl rfl ⟨_, rfl, ⟨by decide, by decide⟩, hσ80, hFσ80, trivial⟩
          · show V 67 [some (ZR 132), some (ZR r25), some (ZI x2_52), some (ZI x3_52), some (ZI x4_52), none] [] 284 σ_52
            refine zr_goto (pc := 67) hV 126 dX4_readLine_67 (by decide) ?_
            show V 126 [some (ZR 132), some (ZR r25), some (ZI x2_52), some (ZI x3_52), some (ZI x4_52), none] [] 284 σ_52
            refine zr_iinc (pc := 126) hV [some (ZR 132), some (ZR r25), some (ZI x2_52), some (ZI x3_52), some (ZI (x4_52 + 1)), none] (x4_52 + 1) dX4_readLine_126 rfl rfl (by decide) rfl rfl ?_
            refine zr_goto (pc := 129) hV 52 dX4_readLine_129 (by decide) ?_
            exact ih52 x2_52 x3_52 (x4_52 + 1) σ_52 (by omega) (by omega) (by omega) hσ_52 hFσ_52 (by omega)
    exact L52 (4 - (0 : Int) + 1 : Int).toNat (σ19 r25 2) 1 0 σ19 (by omega) (by omega) (by omega) hσ19 hFσ19 (by omega)
