set_option maxHeartbeats 800000 in
theorem c_X4_readLine {σ : zq_S} (hσ : zc_T σ)   : zq_C zc_w yX4_readLine cX4_readLine 6 (some .int) 2 43 284 284 [ZR 132] σ (zq_pi (fun r τ => zc_T τ ∧ zc_Fr [(1, 2), (1, 3)] σ τ ∧ (True))) := by
  refine zq_C_of (by decide) (Nat.le_refl _) (Nat.le_of_ble_eq_true rfl) [some (ZR 132), none, none, none, none, none] rfl (fun V hV => ?_)
  have hFσ := zc_Fr_rf [(1, 2), (1, 3)] σ
  show V 0 [some (ZR 132), none, none, none, none, none] [] 284 σ
  refine zr_aload_n (pc := 0) hV dX4_readLine_0 rfl rfl ?_
  refine zr_getR (pc := 1) hV 0 1 dX4_readLine_1 fX4_15 rfl rfl (zc_k132 zc_s132) (zc_pos zc_s132 rfl) (zc_g132_0 hσ zc_s132) (by decide) ?_
  refine zr_callVv (pc := 4) hV [] (st := []) (c_X8_rewind (σ := σ) hσ) dX4_readLine_4 mX4_60 (zc_k1 zc_s1) (zc_pos zc_s1 rfl) (by decide) (Nat.le_of_ble_eq_true rfl) (Nat.le_refl _) (fun σ4 pσ4 => ?_)
  obtain ⟨hσ4, hfσ4, pσ4⟩ := pσ4
  have hFσ4 := zc_Fc hfσ4 rfl hFσ
  refine zr_aload_n (pc := 7) hV dX4_readLine_7 rfl rfl ?_
  refine zr_getR (pc := 8) hV 1 3 dX4_readLine_8 fX4_19 rfl rfl (zc_k132 zc_s132) (zc_pos zc_s132 rfl) (zc_g132_1 hσ4 zc_s132) (by decide) ?_
  refine zr_aload_n (pc := 11) hV dX4_readLine_11 rfl rfl ?_
  refine zr_getR (pc := 12) hV 1 3 dX4_readLine_12 fX4_19 rfl rfl (zc_k132 zc_s132) (zc_pos zc_s132 rfl) (zc_g132_1 hσ4 zc_s132) (by decide) ?_
  refine zr_aload_n (pc := 15) hV dX4_readLine_15 rfl rfl ?_
  refine zr_getR (pc := 16) hV 0 1 dX4_readLine_16 fX4_15 rfl rfl (zc_k132 zc_s132) (zc_pos zc_s132 rfl) (zc_g132_0 hσ4 zc_s132) (by decide) ?_
  refine zr_callVi (pc := 19) hV [] (st := [ZR 3, ZR 3]) (c_X8_takeName (σ := σ4) hσ4) dX4_readLine_19 mX4_63 (zc_k1 zc_s1) (zc_pos zc_s1 rfl) (by decide) (Nat.le_of_ble_eq_true rfl) (Nat.le_refl _) (fun r19 σ19 hr19 pσ19 => ?_)
  obtain ⟨hσ19, hfσ19, pσ19⟩ := pσ19
  have hFσ19 := zc_Fc hfσ19 rfl hFσ4
  refine zr_callVp (pc := 22) hV [ZI r19] (st := [ZR 3]) (c_X9_nameNumber (σ := σ19) hσ19 r19 (by omega)) dX4_readLine_22 mX4_70 (zc_k3 zc_s3) (zc_pos zc_s3 rfl) (by decide) (Nat.le_of_ble_eq_true rfl) (Nat.le_refl _) (fun r22 hr22 pr22 => ?_)
  refine zr_callVr (pc := 25) hV [ZI r22] (st := []) (c_X9_numbered (σ := σ19) hσ19 r22 (by omega)) dX4_readLine_25 mX4_146 (zc_k3 zc_s3) (zc_pos zc_s3 rfl) (by decide) (Nat.le_of_ble_eq_true rfl) (Nat.le_refl _) (fun r25 pr25 => ?_)
  refine zr_astore_nQ (pc := 28) hV [some (ZR 132), some (zq_nr r25), none, none, none, none] dX4_readLine_28 rfl (by decide) rfl rfl ?_
  refine zr_aload_nQ (pc := 29) hV dX4_readLine_29 rfl rfl ?_
  by_cases c1 : r25 < 0
  · rw [zq_nr_n c1]
    refine zr_ifnonnullN (pc := 30) hV dX4_readLine_30 ?_
    show V 33 [some (ZR 132), some (ZN), none, none, none, none] [] 284 σ19
    refine zr_aload_n (pc := 33) hV dX4_readLine_33 rfl rfl ?_
    refine zr_getR (pc := 34) hV 0 1 dX4_readLine_34 fX4_15 rfl rfl (zc_k132 zc_s132) (zc_pos zc_s132 rfl) (zc_g132_0 hσ19 zc_s132) (by decide) ?_
    refine zr_callVv (pc := 37) hV [] (st := []) (c_X8_blameWord (σ := σ19) hσ19) dX4_readLine_37 mX4_74 (zc_k1 zc_s1) (zc_pos zc_s1 rfl) (by decide) (Nat.le_of_ble_eq_true rfl) (Nat.le_refl _) (fun σ37 pσ37 => ?_)
    obtain ⟨hσ37, hfσ37, pσ37⟩ := pσ37
    have hFσ37 := zc_Fc hfσ37 rfl hFσ19
    refine zr_iconst (pc := 40) hV (-1) dX4_readLine_40 rfl ?_
    exact zr_iret (pc := 41) hV dX4_readLine_41 rfl rfl ⟨_, rfl, ⟨by decide, by decide⟩, hσ37, hFσ37, trivial⟩
  · rw [zq_nr_p c1]
    have kr25 : zc_kd r25 = 4 := pr25.1 (by omega)
    have por25 := zc_pos kr25 rfl
    refine zr_ifnonnull (pc := 30) hV 42 dX4_readLine_30 (by decide) ?_
    show V 42 [some (ZR 132), some (ZR r25), none, none, none, none] [] 284 σ19
    refine zr_aload_n (pc := 42) hV dX4_readLine_42 rfl rfl ?_
    refine zr_getI (pc := 43) hV 2 dX4_readLine_43 fX4_89 rfl rfl (zc_k4 kr25) (zc_pos kr25 rfl) ?_
    have t2 := zc_g4_2 hσ19 kr25
    have t3 : σ19 r25 2 = σ4 r25 2 := hfσ19 _ _ (zc_out_at kr25 rfl)
    have t4 : σ4 r25 2 = σ r25 2 := hfσ4 _ _ (zc_out_at kr25 rfl)
    refine zr_istore_n (pc := 46) hV [some (ZR 132), some (ZR r25), some (ZI (σ19 r25 2)), none, none, none] dX4_readLine_46 rfl (by decide) rfl rfl ?_
    refine zr_iconst (pc := 47) hV 1 dX4_readLine_47 rfl ?_
    refine zr_istore_n (pc := 48) hV [some (ZR 132), some (ZR r25), some (ZI (σ19 r25 2)), some (ZI 1), none, none] dX4_readLine_48 rfl (by decide) rfl rfl ?_
    refine zr_iconst (pc := 49) hV 0 dX4_readLine_49 rfl ?_
    refine zr_istore (pc := 50) hV [some (ZR 132), some (ZR r25), some (ZI (σ19 r25 2)), some (ZI 1), some (ZI 0), none] dX4_readLine_50 (by decide) rfl rfl ?_
    have L52 : ∀ (fuel : Nat) (x2_52 : Int) (x3_52 : Int) (x4_52 : Int) (σ_52 : zq_S), ((-2147483648) ≤ x2_52 ∧ x2_52 ≤ 2147483647) → (0 ≤ x3_52 ∧ x3_52 ≤ 1) → (0 ≤ x4_52 ∧ x4_52 ≤ 4) → (zc_T σ_52) → (zc_Fr [(1, 2), (1, 3)] σ σ_52) → 4 - x4_52 < (fuel : Int) → V 52 [some (ZR 132), some (ZR r25), some (ZI x2_52), some (ZI x3_52), some (ZI x4_52), none] [] 284 σ_52 := by
      intro fuel
      induction fuel with
      | zero =>
        intro x2_52 x3_52 x4_52 σ_52 hx2_52 hx3_52 hx4_52 hσ_52 hFσ_52 hm52
        exfalso; omega
      | succ fuel ih =>
        intro x2_52 x3_52 x4_52 σ_52 hx2_52 hx3_52 hx4_52 hσ_52 hFσ_52 hm52
        have ih52 := ih
        show V 52 [some (ZR 132), some (ZR r25), some (ZI x2_52), some (ZI x3_52), some (ZI x4_52), none] [] 284 σ_52
        refine zr_iload (pc := 52) hV dX4_readLine_52 rfl ?_
        refine zr_iconst (pc := 54) hV 3 dX4_readLine_54 rfl ?_
        refine zr_icmp_gt (pc := 55) hV 132 dX4_readLine_55 (by decide) (by omega) ⟨by decide, by decide⟩ (fun c5 => ?_) (fun c5 => ?_)
        · show V 132 [some (ZR 132), some (ZR r25), some (ZI x2_52), some (ZI x3_52), some (ZI x4_52), none] [] 284 σ_52
          refine zr_aload_n (pc := 132) hV dX4_readLine_132 rfl rfl ?_
          refine zr_getR (pc := 133) hV 0 1 dX4_readLine_133 fX4_15 rfl rfl (zc_k132 zc_s132) (zc_pos zc_s132 rfl) (zc_g132_0 hσ_52 zc_s132) (by decide) ?_
          refine zr_callVi (pc := 136) hV [] (st := []) (c_X8_next (σ := σ_52) hσ_52) dX4_readLine_136 mX4_45 (zc_k1 zc_s1) (zc_pos zc_s1 rfl) (by decide) (Nat.le_of_ble_eq_true rfl) (Nat.le_refl _) (fun r136 σ136 hr136 pσ136 => ?_)
          obtain ⟨hσ136, hfσ136, pσ136⟩ := pσ136
          have hFσ136 := zc_Fc hfσ136 rfl hFσ_52
          refine zr_iconst (pc := 139) hV (-1) dX4_readLine_139 rfl ?_
          refine zr_icmp_ne (pc := 140) hV 147 dX4_readLine_140 (by decide) (by omega) ⟨by decide, by decide⟩ (fun c6 => ?_) (fun c6 => ?_)
          · show V 147 [some (ZR 132), some (ZR r25), some (ZI x2_52), some (ZI x3_52), some (ZI x4_52), none] [] 284 σ136
            refine zr_iconst (pc := 147) hV (-1) dX4_readLine_147 rfl ?_
            show V 148 [some (ZR 132), some (ZR r25), some (ZI x2_52), some (ZI x3_52), some (ZI x4_52), none] [ZI (-1)] 284 σ136
            exact zr_iret (pc := 148) hV dX4_readLine_148 rfl rfl ⟨_, rfl, ⟨by decide, by decide⟩, hσ136, hFσ136, trivial⟩
          · show V 143 [some (ZR 132), some (ZR r25), some (ZI x2_52), some (ZI x3_52), some (ZI x4_52), none] [] 284 σ136
            refine zr_iload_n (pc := 143) hV dX4_readLine_143 rfl rfl ?_
            refine zr_goto (pc := 144) hV 148 dX4_readLine_144 (by decide) ?_
            show V 148 [some (ZR 132), some (ZR r25), some (ZI x2_52), some (ZI x3_52), some (ZI x4_52), none] [ZI x2_52] 284 σ136
            exact zr_iret (pc := 148) hV dX4_readLine_148 rfl rfl ⟨_, rfl, (by omega), hσ136, hFσ136, trivial⟩
        · show V 58 [some (ZR 132), some (ZR r25), some (ZI x2_52), some (ZI x3_52), some (ZI x4_52), none] [] 284 σ_52
          refine zr_aload_n (pc := 58) hV dX4_readLine_58 rfl rfl ?_
          refine zr_iload (pc := 59) hV dX4_readLine_59 rfl ?_
          refine zr_callVp (pc := 61) hV [ZI x4_52] (st := []) (c_X3_hasField (σ := σ_52) hσ_52 r25 kr25 x4_52 (by omega)) dX4_readLine_61 mX4_99 (zc_k4 kr25) (zc_pos kr25 rfl) (by decide) (Nat.le_of_ble_eq_true rfl) (Nat.le_refl _) (fun r61 hr61 pr61 => ?_)
          refine zr_if_ne (pc := 64) hV 70 dX4_readLine_64 (by decide) (by omega) (fun c7 => ?_) (fun c7 => ?_)
          · show V 70 [some (ZR 132), some (ZR r25), some (ZI x2_52), some (ZI x3_52), some (ZI x4_52), none] [] 284 σ_52
            refine zr_iload_n (pc := 70) hV dX4_readLine_70 rfl rfl ?_
            have J88 : ∀ (σ_88 : zq_S), (zc_T σ_88) → (zc_Fr [(1, 2), (1, 3)] σ σ_88) → V 88 [some (ZR 132), some (ZR r25), some (ZI x2_52), none, some (ZI x4_52), none] [] 284 σ_88 := by
              intro σ_88 hσ_88 hFσ_88
              show V 88 [some (ZR 132), some (ZR r25), some (ZI x2_52), none, some (ZI x4_52), none] [] 284 σ_88
              refine zr_aload_n (pc := 88) hV dX4_readLine_88 rfl rfl ?_
              refine zr_getR (pc := 89) hV 0 1 dX4_readLine_89 fX4_15 rfl rfl (zc_k132 zc_s132) (zc_pos zc_s132 rfl) (zc_g132_0 hσ_88 zc_s132) (by decide) ?_
              refine zr_iconst (pc := 92) hV 1 dX4_readLine_92 rfl ?_
              refine zr_aload_n (pc := 93) hV dX4_readLine_93 rfl rfl ?_
              refine zr_iload (pc := 94) hV dX4_readLine_94 rfl ?_
              refine zr_callVp (pc := 96) hV [ZI x4_52] (st := [ZI 1, ZR 1]) (c_X3_fieldBits (σ := σ_88) hσ_88 r25 kr25 x4_52 (by omega)) dX4_readLine_96 mX4_102 (zc_k4 kr25) (zc_pos kr25 rfl) (by decide) (Nat.le_of_ble_eq_true rfl) (Nat.le_refl _) (fun r96 hr96 pr96 => ?_)
              refine zr_ishl (pc := 99) hV dX4_readLine_99 ?_
              have t8 := zq_shl_in 1 r96
              refine zr_iconst (pc := 100) hV 1 dX4_readLine_100 rfl ?_
              refine zr_isub (pc := 101) hV dX4_readLine_101 ?_
              refine zr_any (pc := 102) hV (fun y102 hy102 _ => ?_)
              refine zr_callVi (pc := 102) hV [ZI y102] (st := []) (c_X8_takeNumber (σ := σ_88) hσ_88 y102 (by omega)) dX4_readLine_102 mX4_137 (zc_k1 zc_s1) (zc_pos zc_s1 rfl) (by decide) (Nat.le_of_ble_eq_true rfl) (Nat.le_refl _) (fun r102 σ102 hr102 pσ102 => ?_)
              obtain ⟨hσ102, hfσ102, pσ102⟩ := pσ102
              have hFσ102 := zc_Fc hfσ102 rfl hFσ_88
              refine zr_istore (pc := 105) hV [some (ZR 132), some (ZR r25), some (ZI x2_52), none, some (ZI x4_52), some (ZI r102)] dX4_readLine_105 (by decide) rfl rfl ?_
              refine zr_iload (pc := 107) hV dX4_readLine_107 rfl ?_
              refine zr_if_ge (pc := 109) hV 114 dX4_readLine_109 (by decide) (by omega) (fun c9 => ?_) (fun c9 => ?_)
              · show V 114 [some (ZR 132), some (ZR r25), some (ZI x2_52), none, some (ZI x4_52), some (ZI r102)] [] 284 σ102
                refine zr_aload_n (pc := 114) hV dX4_readLine_114 rfl rfl ?_
                refine zr_iload_n (pc := 115) hV dX4_readLine_115 rfl rfl ?_
                refine zr_iload (pc := 116) hV dX4_readLine_116 rfl ?_
                refine zr_iload (pc := 118) hV dX4_readLine_118 rfl ?_
                refine zr_callVp (pc := 120) hV [ZI x2_52, ZI x4_52, ZI r102] (st := []) (c_X3_withField (σ := σ102) hσ102 r25 kr25 x2_52 x4_52 r102 (by omega) (by omega) (by omega)) dX4_readLine_120 mX4_150 (zc_k4 kr25) (zc_pos kr25 rfl) (by decide) (Nat.le_of_ble_eq_true rfl) (Nat.le_refl _) (fun r120 hr120 pr120 => ?_)
                refine zr_istore_n (pc := 123) hV [some (ZR 132), some (ZR r25), some (ZI r120), none, some (ZI x4_52), some (ZI r102)] dX4_readLine_123 rfl (by decide) rfl rfl ?_
                refine zr_iconst (pc := 124) hV 0 dX4_readLine_124 rfl ?_
                refine zr_istore_n (pc := 125) hV [some (ZR 132), some (ZR r25), some (ZI r120), some (ZI 0), some (ZI x4_52), some (ZI r102)] dX4_readLine_125 rfl (by decide) rfl rfl ?_
                show V 126 [some (ZR 132), some (ZR r25), some (ZI r120), some (ZI 0), some (ZI x4_52), some (ZI r102)] [] 284 σ102
                refine zr_iinc (pc := 126) hV [some (ZR 132), some (ZR r25), some (ZI r120), some (ZI 0), some (ZI (x4_52 + 1)), some (ZI r102)] (x4_52 + 1) dX4_readLine_126 rfl rfl (by decide) rfl rfl ?_
                refine zr_goto (pc := 129) hV 52 dX4_readLine_129 (by decide) ?_
                refine zr_sub (pc := 52) hV [some (ZR 132), some (ZR r25), some (ZI r120), some (ZI 0), some (ZI (x4_52 + 1)), none] (⟨rfl, rfl, rfl, rfl, rfl, trivial⟩) ?_
                exact ih52 r120 0 (x4_52 + 1) σ102 (by omega) (by omega) (by omega) hσ102 hFσ102 (by omega)
              · show V 112 [some (ZR 132), some (ZR r25), some (ZI x2_52), none, some (ZI x4_52), some (ZI r102)] [] 284 σ102
                refine zr_iconst (pc := 112) hV (-1) dX4_readLine_112 rfl ?_
                exact zr_iret (pc := 113) hV dX4_readLine_113 rfl rfl ⟨_, rfl, ⟨by decide, by decide⟩, hσ102, hFσ102, trivial⟩
            refine zr_if_ne (pc := 71) hV 88 dX4_readLine_71 (by decide) (by omega) (fun c10 => ?_) (fun c10 => ?_)
            · refine zr_sub (pc := 88) hV [some (ZR 132), some (ZR r25), some (ZI x2_52), none, some (ZI x4_52), none] (⟨rfl, rfl, rfl, rfl, trivial⟩) ?_
              exact J88 σ_52 hσ_52 hFσ_52
            · show V 74 [some (ZR 132), some (ZR r25), some (ZI x2_52), some (ZI x3_52), some (ZI x4_52), none] [] 284 σ_52
              refine zr_aload_n (pc := 74) hV dX4_readLine_74 rfl rfl ?_
              refine zr_getR (pc := 75) hV 0 1 dX4_readLine_75 fX4_15 rfl rfl (zc_k132 zc_s132) (zc_pos zc_s132 rfl) (zc_g132_0 hσ_52 zc_s132) (by decide) ?_
              refine zr_bipush (pc := 78) hV 44 dX4_readLine_78 (by decide) ?_
              refine zr_callVi (pc := 80) hV [ZI 44] (st := []) (c_X8_takes (σ := σ_52) hσ_52 44 (by omega)) dX4_readLine_80 mX4_27 (zc_k1 zc_s1) (zc_pos zc_s1 rfl) (by decide) (Nat.le_of_ble_eq_true rfl) (Nat.le_refl _) (fun r80 σ80 hr80 pσ80 => ?_)
              obtain ⟨hσ80, hfσ80, pσ80⟩ := pσ80
              have hFσ80 := zc_Fc hfσ80 rfl hFσ_52
              refine zr_if_ne (pc := 83) hV 88 dX4_readLine_83 (by decide) (by omega) (fun c11 => ?_) (fun c11 => ?_)
              · refine zr_sub (pc := 88) hV [some (ZR 132), some (ZR r25), some (ZI x2_52), none, some (ZI x4_52), none] (⟨rfl, rfl, rfl, rfl, trivial⟩) ?_
                exact J88 σ80 hσ80 hFσ80
              · show V 86 [some (ZR 132), some (ZR r25), some (ZI x2_52), some (ZI x3_52), some (ZI x4_52), none] [] 284 σ80
                refine zr_iconst (pc := 86) hV (-1) dX4_readLine_86 rfl ?_
                exact zr_iret (pc := 87) hV dX4_readLine_87 rfl rfl ⟨_, rfl, ⟨by decide, by decide⟩, hσ80, hFσ80, trivial⟩
          · show V 67 [some (ZR 132), some (ZR r25), some (ZI x2_52), some (ZI x3_52), some (ZI x4_52), none] [] 284 σ_52
            refine zr_goto (pc := 67) hV 126 dX4_readLine_67 (by decide) ?_
            show V 126 [some (ZR 132), some (ZR r25), some (ZI x2_52), some (ZI x3_52), some (ZI x4_52), none] [] 284 σ_52
            refine zr_iinc (pc := 126) hV [some (ZR 132), some (ZR r25), some (ZI x2_52), some (ZI x3_52), some (ZI (x4_52 + 1)), none] (x4_52 + 1) dX4_readLine_126 rfl rfl (by decide) rfl rfl ?_
            refine zr_goto (pc := 129) hV 52 dX4_readLine_129 (by decide) ?_
            exact ih52 x2_52 x3_52 (x4_52 + 1) σ_52 (by omega) (by omega) (by omega) hσ_52 hFσ_52 (by omega)
    exact L52 (4 - (0 : Int) + 1 : Int).toNat (σ19 r25 2) 1 0 σ19 (by omega) (by omega) (by omega) hσ19 hFσ19 (by omega)
set_option maxHeartbeats 800000 in
theorem c_X4_writeByte {σ : zq_S} (hσ : zc_T σ) (b : Int) (q0 : zq_in b) : zq_C zc_w yX4_writeByte cX4_writeByte 2 (none) 0 0 284 284 [ZR 132, ZI b] σ (zq_pv (fun τ => zc_T τ ∧ zc_Fr [(132, 3), (133, -1)] σ τ ∧ (True))) := by
  refine zq_C_of (by decide) (Nat.le_refl _) (Nat.le_of_ble_eq_true rfl) [some (ZR 132), some (ZI b)] rfl (fun V hV => ?_)
  have hFσ := zc_Fr_rf [(132, 3), (133, -1)] σ
  show V 0 [some (ZR 132), some (ZI b)] [] 284 σ
  refine zr_aload_n (pc := 0) hV dX4_writeByte_0 rfl rfl ?_
  refine zr_getI (pc := 1) hV 3 dX4_writeByte_1 fX4_154 rfl rfl (zc_k132 zc_s132) (zc_pos zc_s132 rfl) ?_
  have t1 := zc_g132_3 hσ zc_s132
  refine zr_bipush (pc := 4) hV 16 dX4_writeByte_4 (by decide) ?_
  refine zr_icmp_ge (pc := 6) hV 26 dX4_writeByte_6 (by decide) (by omega) ⟨by decide, by decide⟩ (fun c2 => ?_) (fun c2 => ?_)
  · show V 26 [some (ZR 132), some (ZI b)] [] 284 σ
    exact zr_vret (pc := 26) hV dX4_writeByte_26 rfl rfl ⟨rfl, hσ, hFσ, trivial⟩
  · show V 9 [some (ZR 132), some (ZI b)] [] 284 σ
    refine zr_aload_n (pc := 9) hV dX4_writeByte_9 rfl rfl ?_
    refine zr_getR (pc := 10) hV 2 133 dX4_writeByte_10 fX4_11 rfl rfl (zc_k132 zc_s132) (zc_pos zc_s132 rfl) (zc_g132_2 hσ zc_s132) (by decide) ?_
    refine zr_aload_n (pc := 13) hV dX4_writeByte_13 rfl rfl ?_
    refine zr_dup (pc := 14) hV dX4_writeByte_14 (fun _ => rfl) ?_
    refine zr_getI (pc := 15) hV 3 dX4_writeByte_15 fX4_154 rfl rfl (zc_k132 zc_s132) (zc_pos zc_s132 rfl) ?_
    have t3 := zc_g132_3 hσ zc_s132
    refine zr_dup_x1 (pc := 18) hV dX4_writeByte_18 (fun _ => rfl) (fun _ => rfl) ?_
    refine zr_iconst (pc := 19) hV 1 dX4_writeByte_19 rfl ?_
    refine zr_iadd (pc := 20) hV dX4_writeByte_20 ?_
    refine zr_putI (pc := 21) hV 3 dX4_writeByte_21 fX4_154 rfl rfl rfl (zc_k132 zc_s132) (zc_pos zc_s132 rfl) (fun σ21 eσ21 => ?_)
    have hσ21 : zc_T σ21 := zc_u132_3 eσ21 hσ zc_s132 (by omega)
    have hFσ21 := zc_Fw eσ21 zc_s132 rfl hFσ
    refine zr_iload_n (pc := 24) hV dX4_writeByte_24 rfl rfl ?_
    refine zr_iast (pc := 25) hV dX4_writeByte_25 (zc_k133 zc_s133) (zc_pos zc_s133 rfl) rfl (by omega) (fun σ25 eσ25 => ?_)
    have hσ25 : zc_T σ25 := zc_ua133 eσ25 hσ21 zc_s133 (by omega)
    have hFσ25 := zc_Fa eσ25 zc_s133 rfl hFσ21
    show V 26 [some (ZR 132), some (ZI b)] [] 284 σ25
    exact zr_vret (pc := 26) hV dX4_writeByte_26 rfl rfl ⟨rfl, hσ25, hFσ25, trivial⟩
set_option maxHeartbeats 800000 in
theorem c_X4_writeNumber {σ : zq_S} (hσ : zc_T σ) (number : Int) (q0 : zq_in number) : zq_C zc_w yX4_writeNumber cX4_writeNumber 2 (none) 1 21 284 284 [ZR 132, ZI number] σ (zq_pv (fun τ => zc_T τ ∧ zc_Fr [(132, 3), (133, -1)] σ τ ∧ (True))) := by
  refine zq_C_of (by decide) (Nat.le_refl _) (Nat.le_of_ble_eq_true rfl) [some (ZR 132), some (ZI number)] rfl (fun V hV => ?_)
  have hFσ := zc_Fr_rf [(132, 3), (133, -1)] σ
  show V 0 [some (ZR 132), some (ZI number)] [] 284 σ
  refine zr_iload_n (pc := 0) hV dX4_writeNumber_0 rfl rfl ?_
  refine zr_bipush (pc := 1) hV 100 dX4_writeNumber_1 (by decide) ?_
  have J17 : ∀ (σ_17 : zq_S), (zc_T σ_17) → (zc_Fr [(132, 3), (133, -1)] σ σ_17) → V 17 [some (ZR 132), some (ZI number)] [] 284 σ_17 := by
    intro σ_17 hσ_17 hFσ_17
    show V 17 [some (ZR 132), some (ZI number)] [] 284 σ_17
    refine zr_iload_n (pc := 17) hV dX4_writeNumber_17 rfl rfl ?_
    refine zr_bipush (pc := 18) hV 10 dX4_writeNumber_18 (by decide) ?_
    refine zr_icmp_lt (pc := 20) hV 37 dX4_writeNumber_20 (by decide) (by omega) ⟨by decide, by decide⟩ (fun c1 => ?_) (fun c1 => ?_)
    · show V 37 [some (ZR 132), some (ZI number)] [] 284 σ_17
      refine zr_aload_n (pc := 37) hV dX4_writeNumber_37 rfl rfl ?_
      refine zr_bipush (pc := 38) hV 48 dX4_writeNumber_38 (by decide) ?_
      refine zr_iload_n (pc := 40) hV dX4_writeNumber_40 rfl rfl ?_
      refine zr_bipush (pc := 41) hV 10 dX4_writeNumber_41 (by decide) ?_
      refine zr_irem (pc := 43) hV dX4_writeNumber_43 ⟨by decide, by decide⟩ (by omega) ?_
      have t2 := zq_rem_in number 10
      refine zr_iadd (pc := 44) hV dX4_writeNumber_44 ?_
      refine zr_any (pc := 45) hV (fun y45 hy45 _ => ?_)
      refine zr_callVv (pc := 45) hV [ZI y45] (st := []) (c_X4_writeByte (σ := σ_17) hσ_17 y45 (by omega)) dX4_writeNumber_45 mX4_157 (zc_k132 zc_s132) (zc_pos zc_s132 rfl) (by decide) (Nat.le_of_ble_eq_true rfl) (Nat.le_refl _) (fun σ45 pσ45 => ?_)
      obtain ⟨hσ45, hfσ45, pσ45⟩ := pσ45
      have hFσ45 := zc_Fc hfσ45 rfl hFσ_17
      exact zr_vret (pc := 48) hV dX4_writeNumber_48 rfl rfl ⟨rfl, hσ45, hFσ45, trivial⟩
    · show V 23 [some (ZR 132), some (ZI number)] [] 284 σ_17
      refine zr_aload_n (pc := 23) hV dX4_writeNumber_23 rfl rfl ?_
      refine zr_bipush (pc := 24) hV 48 dX4_writeNumber_24 (by decide) ?_
      refine zr_iload_n (pc := 26) hV dX4_writeNumber_26 rfl rfl ?_
      refine zr_bipush (pc := 27) hV 10 dX4_writeNumber_27 (by decide) ?_
      refine zr_idiv (pc := 29) hV dX4_writeNumber_29 ⟨by decide, by decide⟩ (by omega) ?_
      have t3 := zq_div_c (x := number) 10 (by decide) (by omega)
      refine zr_bipush (pc := 30) hV 10 dX4_writeNumber_30 (by decide) ?_
      refine zr_irem (pc := 32) hV dX4_writeNumber_32 ⟨by decide, by decide⟩ (by omega) ?_
      have t4 := zq_rem_c (x := zq_div number 10) 10 (by decide) (by omega)
      refine zr_iadd (pc := 33) hV dX4_writeNumber_33 ?_
      refine zr_callVv (pc := 34) hV [ZI (48 + (zq_rem (zq_div number 10) 10))] (st := []) (c_X4_writeByte (σ := σ_17) hσ_17 (48 + (zq_rem (zq_div number 10) 10)) (by omega)) dX4_writeNumber_34 mX4_157 (zc_k132 zc_s132) (zc_pos zc_s132 rfl) (by decide) (Nat.le_of_ble_eq_true rfl) (Nat.le_refl _) (fun σ34 pσ34 => ?_)
      obtain ⟨hσ34, hfσ34, pσ34⟩ := pσ34
      have hFσ34 := zc_Fc hfσ34 rfl hFσ_17
      show V 37 [some (ZR 132), some (ZI number)] [] 284 σ34
      refine zr_aload_n (pc := 37) hV dX4_writeNumber_37 rfl rfl ?_
      refine zr_bipush (pc := 38) hV 48 dX4_writeNumber_38 (by decide) ?_
      refine zr_iload_n (pc := 40) hV dX4_writeNumber_40 rfl rfl ?_
      refine zr_bipush (pc := 41) hV 10 dX4_writeNumber_41 (by decide) ?_
      refine zr_irem (pc := 43) hV dX4_writeNumber_43 ⟨by decide, by decide⟩ (by omega) ?_
      have t5 := zq_rem_c (x := number) 10 (by decide) (by omega)
      refine zr_iadd (pc := 44) hV dX4_writeNumber_44 ?_
      refine zr_callVv (pc := 45) hV [ZI (48 + (zq_rem number 10))] (st := []) (c_X4_writeByte (σ := σ34) hσ34 (48 + (zq_rem number 10)) (by omega)) dX4_writeNumber_45 mX4_157 (zc_k132 zc_s132) (zc_pos zc_s132 rfl) (by decide) (Nat.le_of_ble_eq_true rfl) (Nat.le_refl _) (fun σ45 pσ45 => ?_)
      obtain ⟨hσ45, hfσ45, pσ45⟩ := pσ45
      have hFσ45 := zc_Fc hfσ45 rfl hFσ34
      exact zr_vret (pc := 48) hV dX4_writeNumber_48 rfl rfl ⟨rfl, hσ45, hFσ45, trivial⟩
  refine zr_icmp_lt (pc := 3) hV 17 dX4_writeNumber_3 (by decide) (by omega) ⟨by decide, by decide⟩ (fun c6 => ?_) (fun c6 => ?_)
  · exact J17 σ hσ hFσ
  · show V 6 [some (ZR 132), some (ZI number)] [] 284 σ
    refine zr_aload_n (pc := 6) hV dX4_writeNumber_6 rfl rfl ?_
    refine zr_bipush (pc := 7) hV 48 dX4_writeNumber_7 (by decide) ?_
    refine zr_iload_n (pc := 9) hV dX4_writeNumber_9 rfl rfl ?_
    refine zr_bipush (pc := 10) hV 100 dX4_writeNumber_10 (by decide) ?_
    refine zr_idiv (pc := 12) hV dX4_writeNumber_12 ⟨by decide, by decide⟩ (by omega) ?_
    have t7 := zq_div_c (x := number) 100 (by decide) (by omega)
    refine zr_iadd (pc := 13) hV dX4_writeNumber_13 ?_
    refine zr_callVv (pc := 14) hV [ZI (48 + (zq_div number 100))] (st := []) (c_X4_writeByte (σ := σ) hσ (48 + (zq_div number 100)) (by omega)) dX4_writeNumber_14 mX4_157 (zc_k132 zc_s132) (zc_pos zc_s132 rfl) (by decide) (Nat.le_of_ble_eq_true rfl) (Nat.le_refl _) (fun σ14 pσ14 => ?_)
    obtain ⟨hσ14, hfσ14, pσ14⟩ := pσ14
    have hFσ14 := zc_Fc hfσ14 rfl hFσ
    exact J17 σ14 hσ14 hFσ14
set_option maxHeartbeats 800000 in
theorem c_X4_writeLine {σ : zq_S} (hσ : zc_T σ) (order : Int) (korder : zc_kd order = 4) (bits : Int) (q0 : zq_in bits) : zq_C zc_w yX4_writeLine cX4_writeLine 5 (none) 2 42 284 284 [ZR 132, ZR order, ZI bits] σ (zq_pv (fun τ => zc_T τ ∧ zc_Fr [(132, 3), (133, -1)] σ τ ∧ (True))) := by
  refine zq_C_of (by decide) (Nat.le_refl _) (Nat.le_of_ble_eq_true rfl) [some (ZR 132), some (ZR order), some (ZI bits), none, none] rfl (fun V hV => ?_)
  have poorder := zc_pos korder rfl
  have hFσ := zc_Fr_rf [(132, 3), (133, -1)] σ
  show V 0 [some (ZR 132), some (ZR order), some (ZI bits), none, none] [] 284 σ
  refine zr_aload_n (pc := 0) hV dX4_writeLine_0 rfl rfl ?_
  refine zr_iconst (pc := 1) hV 0 dX4_writeLine_1 rfl ?_
  refine zr_putI (pc := 2) hV 3 dX4_writeLine_2 fX4_154 rfl rfl rfl (zc_k132 zc_s132) (zc_pos zc_s132 rfl) (fun σ2 eσ2 => ?_)
  have hσ2 : zc_T σ2 := zc_u132_3 eσ2 hσ zc_s132 (by omega)
  have hFσ2 := zc_Fw eσ2 zc_s132 rfl hFσ
  refine zr_bipush (pc := 5) hV 16 dX4_writeLine_5 (by decide) ?_
  refine zr_istore_n (pc := 7) hV [some (ZR 132), some (ZR order), some (ZI bits), some (ZI 16), none] dX4_writeLine_7 rfl (by decide) rfl rfl ?_
  have L8 : ∀ (fuel : Nat) (x3_8 : Int) (σ_8 : zq_S), ((-8) ≤ x3_8 ∧ x3_8 ≤ 16) → (zc_T σ_8) → (zc_Fr [(132, 3), (133, -1)] σ σ_8) → x3_8 - (-8) < (fuel : Int) → V 8 [some (ZR 132), some (ZR order), some (ZI bits), some (ZI x3_8), none] [] 284 σ_8 := by
    intro fuel
    induction fuel with
    | zero =>
      intro x3_8 σ_8 hx3_8 hσ_8 hFσ_8 hm8
      exfalso; omega
    | succ fuel ih =>
      intro x3_8 σ_8 hx3_8 hσ_8 hFσ_8 hm8
      have ih8 := ih
      show V 8 [some (ZR 132), some (ZR order), some (ZI bits), some (ZI x3_8), none] [] 284 σ_8
      refine zr_iload_n (pc := 8) hV dX4_writeLine_8 rfl rfl ?_
      refine zr_if_lt (pc := 9) hV 41 dX4_writeLine_9 (by decide) (by omega) (fun c1 => ?_) (fun c1 => ?_)
      · show V 41 [some (ZR 132), some (ZR order), some (ZI bits), some (ZI x3_8), none] [] 284 σ_8
        refine zr_bipush (pc := 41) hV 32 dX4_writeLine_41 (by decide) ?_
        refine zr_istore_n (pc := 43) hV [some (ZR 132), some (ZR order), some (ZI bits), some (ZI 32), none] dX4_writeLine_43 rfl (by decide) rfl rfl ?_
        refine zr_iconst (pc := 44) hV 0 dX4_writeLine_44 rfl ?_
        refine zr_istore (pc := 45) hV [some (ZR 132), some (ZR order), some (ZI bits), some (ZI 32), some (ZI 0)] dX4_writeLine_45 (by decide) rfl rfl ?_
        have L47 : ∀ (fuel : Nat) (x3_47 : Int) (x4_47 : Int) (σ_47 : zq_S), (32 ≤ x3_47 ∧ x3_47 ≤ 2147483647) → (0 ≤ x4_47 ∧ x4_47 ≤ 4) → (zc_T σ_47) → (zc_Fr [(132, 3), (133, -1)] σ σ_47) → 4 - x4_47 < (fuel : Int) → V 47 [some (ZR 132), some (ZR order), some (ZI bits), some (ZI x3_47), some (ZI x4_47)] [] 284 σ_47 := by
          intro fuel
          induction fuel with
          | zero =>
            intro x3_47 x4_47 σ_47 hx3_47 hx4_47 hσ_47 hFσ_47 hm47
            exfalso; omega
          | succ fuel ih =>
            intro x3_47 x4_47 σ_47 hx3_47 hx4_47 hσ_47 hFσ_47 hm47
            have ih47 := ih
            show V 47 [some (ZR 132), some (ZR order), some (ZI bits), some (ZI x3_47), some (ZI x4_47)] [] 284 σ_47
            refine zr_iload (pc := 47) hV dX4_writeLine_47 rfl ?_
            refine zr_iconst (pc := 49) hV 3 dX4_writeLine_49 rfl ?_
            refine zr_icmp_gt (pc := 50) hV 87 dX4_writeLine_50 (by decide) (by omega) ⟨by decide, by decide⟩ (fun c2 => ?_) (fun c2 => ?_)
            · show V 87 [some (ZR 132), some (ZR order), some (ZI bits), some (ZI x3_47), some (ZI x4_47)] [] 284 σ_47
              exact zr_vret (pc := 87) hV dX4_writeLine_87 rfl rfl ⟨rfl, hσ_47, hFσ_47, trivial⟩
            · show V 53 [some (ZR 132), some (ZR order), some (ZI bits), some (ZI x3_47), some (ZI x4_47)] [] 284 σ_47
              refine zr_aload_n (pc := 53) hV dX4_writeLine_53 rfl rfl ?_
              refine zr_iload (pc := 54) hV dX4_writeLine_54 rfl ?_
              refine zr_callVp (pc := 56) hV [ZI x4_47] (st := []) (c_X3_hasField (σ := σ_47) hσ_47 order korder x4_47 (by omega)) dX4_writeLine_56 mX4_99 (zc_k4 korder) (zc_pos korder rfl) (by decide) (Nat.le_of_ble_eq_true rfl) (Nat.le_refl _) (fun r56 hr56 pr56 => ?_)
              refine zr_if_eq (pc := 59) hV 81 dX4_writeLine_59 (by decide) (by omega) (fun c3 => ?_) (fun c3 => ?_)
              · show V 81 [some (ZR 132), some (ZR order), some (ZI bits), some (ZI x3_47), some (ZI x4_47)] [] 284 σ_47
                refine zr_iinc (pc := 81) hV [some (ZR 132), some (ZR order), some (ZI bits), some (ZI x3_47), some (ZI (x4_47 + 1))] (x4_47 + 1) dX4_writeLine_81 rfl rfl (by decide) rfl rfl ?_
                refine zr_goto (pc := 84) hV 47 dX4_writeLine_84 (by decide) ?_
                exact ih47 x3_47 (x4_47 + 1) σ_47 (by omega) (by omega) hσ_47 hFσ_47 (by omega)
              · show V 62 [some (ZR 132), some (ZR order), some (ZI bits), some (ZI x3_47), some (ZI x4_47)] [] 284 σ_47
                refine zr_aload_n (pc := 62) hV dX4_writeLine_62 rfl rfl ?_
                refine zr_iload_n (pc := 63) hV dX4_writeLine_63 rfl rfl ?_
                refine zr_callVv (pc := 64) hV [ZI x3_47] (st := []) (c_X4_writeByte (σ := σ_47) hσ_47 x3_47 (by omega)) dX4_writeLine_64 mX4_157 (zc_k132 zc_s132) (zc_pos zc_s132 rfl) (by decide) (Nat.le_of_ble_eq_true rfl) (Nat.le_refl _) (fun σ64 pσ64 => ?_)
                obtain ⟨hσ64, hfσ64, pσ64⟩ := pσ64
                have hFσ64 := zc_Fc hfσ64 rfl hFσ_47
                refine zr_aload_n (pc := 67) hV dX4_writeLine_67 rfl rfl ?_
                refine zr_aload_n (pc := 68) hV dX4_writeLine_68 rfl rfl ?_
                refine zr_iload_n (pc := 69) hV dX4_writeLine_69 rfl rfl ?_
                refine zr_iload (pc := 70) hV dX4_writeLine_70 rfl ?_
                refine zr_callVp (pc := 72) hV [ZI bits, ZI x4_47] (st := [ZR 132]) (c_X3_fieldOf (σ := σ64) hσ64 order korder bits x4_47 (by omega) (by omega)) dX4_writeLine_72 mX4_161 (zc_k4 korder) (zc_pos korder rfl) (by decide) (Nat.le_of_ble_eq_true rfl) (Nat.le_refl _) (fun r72 hr72 pr72 => ?_)
                refine zr_callVv (pc := 75) hV [ZI r72] (st := []) (c_X4_writeNumber (σ := σ64) hσ64 r72 (by omega)) dX4_writeLine_75 mX4_165 (zc_k132 zc_s132) (zc_pos zc_s132 rfl) (by decide) (Nat.le_of_ble_eq_true rfl) (Nat.le_refl _) (fun σ75 pσ75 => ?_)
                obtain ⟨hσ75, hfσ75, pσ75⟩ := pσ75
                have hFσ75 := zc_Fc hfσ75 rfl hFσ64
                refine zr_bipush (pc := 78) hV 44 dX4_writeLine_78 (by decide) ?_
                refine zr_istore_n (pc := 80) hV [some (ZR 132), some (ZR order), some (ZI bits), some (ZI 44), some (ZI x4_47)] dX4_writeLine_80 rfl (by decide) rfl rfl ?_
                show V 81 [some (ZR 132), some (ZR order), some (ZI bits), some (ZI 44), some (ZI x4_47)] [] 284 σ75
                refine zr_iinc (pc := 81) hV [some (ZR 132), some (ZR order), some (ZI bits), some (ZI 44), some (ZI (x4_47 + 1))] (x4_47 + 1) dX4_writeLine_81 rfl rfl (by decide) rfl rfl ?_
                refine zr_goto (pc := 84) hV 47 dX4_writeLine_84 (by decide) ?_
                exact ih47 44 (x4_47 + 1) σ75 (by omega) (by omega) hσ75 hFσ75 (by omega)
        exact L47 (4 - (0 : Int) + 1 : Int).toNat 32 0 σ_8 (by omega) (by omega) hσ_8 hFσ_8 (by omega)
      · show V 12 [some (ZR 132), some (ZR order), some (ZI bits), some (ZI x3_8), none] [] 284 σ_8
        refine zr_aload_n (pc := 12) hV dX4_writeLine_12 rfl rfl ?_
        refine zr_getI (pc := 13) hV 0 dX4_writeLine_13 fX4_66 rfl rfl (zc_k4 korder) (zc_pos korder rfl) ?_
        have t4 := zc_g4_0 hσ_8 korder
        have t5 : σ_8 order 0 = σ order 0 := hFσ_8 _ _ (zc_out_at korder rfl)
        refine zr_iload_n (pc := 16) hV dX4_writeLine_16 rfl rfl ?_
        refine zr_ishr (pc := 17) hV dX4_writeLine_17 ?_
        have t6 := zq_shr_in (σ_8 order 0) x3_8
        refine zr_if_eq (pc := 18) hV 35 dX4_writeLine_18 (by decide) (by omega) (fun c7 => ?_) (fun c7 => ?_)
        · show V 35 [some (ZR 132), some (ZR order), some (ZI bits), some (ZI x3_8), none] [] 284 σ_8
          refine zr_iinc (pc := 35) hV [some (ZR 132), some (ZR order), some (ZI bits), some (ZI (x3_8 + (-8))), none] (x3_8 + (-8)) dX4_writeLine_35 rfl rfl (by decide) rfl rfl ?_
          refine zr_goto (pc := 38) hV 8 dX4_writeLine_38 (by decide) ?_
          exact ih8 (x3_8 + (-8)) σ_8 (by omega) hσ_8 hFσ_8 (by omega)
        · show V 21 [some (ZR 132), some (ZR order), some (ZI bits), some (ZI x3_8), none] [] 284 σ_8
          refine zr_aload_n (pc := 21) hV dX4_writeLine_21 rfl rfl ?_
          refine zr_aload_n (pc := 22) hV dX4_writeLine_22 rfl rfl ?_
          refine zr_getI (pc := 23) hV 0 dX4_writeLine_23 fX4_66 rfl rfl (zc_k4 korder) (zc_pos korder rfl) ?_
          have t8 := zc_g4_0 hσ_8 korder
          have t9 : σ_8 order 0 = σ order 0 := hFσ_8 _ _ (zc_out_at korder rfl)
          refine zr_iload_n (pc := 26) hV dX4_writeLine_26 rfl rfl ?_
          refine zr_ishr (pc := 27) hV dX4_writeLine_27 ?_
          have t10 := zq_shr_in (σ_8 order 0) x3_8
          refine zr_sipush (pc := 28) hV 255 dX4_writeLine_28 (by decide) ?_
          refine zr_iand (pc := 31) hV dX4_writeLine_31 ?_
          have t11 := zq_and_mask (zq_shr (σ_8 order 0) x3_8) 8 255 256 (by decide) (by decide) (by decide)
          have t12 := zc_g4_0 hσ_8 korder
          have t13 : σ_8 order 0 = σ order 0 := hFσ_8 _ _ (zc_out_at korder rfl)
          refine zr_callVv (pc := 32) hV [ZI (zq_and (zq_shr (σ_8 order 0) x3_8) 255)] (st := []) (c_X4_writeByte (σ := σ_8) hσ_8 (zq_and (zq_shr (σ_8 order 0) x3_8) 255) (by omega)) dX4_writeLine_32 mX4_157 (zc_k132 zc_s132) (zc_pos zc_s132 rfl) (by decide) (Nat.le_of_ble_eq_true rfl) (Nat.le_refl _) (fun σ32 pσ32 => ?_)
          obtain ⟨hσ32, hfσ32, pσ32⟩ := pσ32
          have hFσ32 := zc_Fc hfσ32 rfl hFσ_8
          show V 35 [some (ZR 132), some (ZR order), some (ZI bits), some (ZI x3_8), none] [] 284 σ32
          refine zr_iinc (pc := 35) hV [some (ZR 132), some (ZR order), some (ZI bits), some (ZI (x3_8 + (-8))), none] (x3_8 + (-8)) dX4_writeLine_35 rfl rfl (by decide) rfl rfl ?_
          refine zr_goto (pc := 38) hV 8 dX4_writeLine_38 (by decide) ?_
          exact ih8 (x3_8 + (-8)) σ32 (by omega) hσ32 hFσ32 (by omega)
  exact L8 ((16 : Int) - (-8) + 1 : Int).toNat 16 σ2 (by omega) hσ2 hFσ2 (by omega)
set_option maxHeartbeats 800000 in
theorem c_X4_byteAt {σ : zq_S} (hσ : zc_T σ) (k : Int) (q0 : zq_in k) : zq_C zc_w yX4_byteAt cX4_byteAt 2 (some .int) 0 0 284 284 [ZR 132, ZI k] σ (zq_pp σ (fun r => True)) := by
  refine zq_C_of (by decide) (Nat.le_refl _) (Nat.le_of_ble_eq_true rfl) [some (ZR 132), some (ZI k)] rfl (fun V hV => ?_)
  show V 0 [some (ZR 132), some (ZI k)] [] 284 σ
  refine zr_iload_n (pc := 0) hV dX4_byteAt_0 rfl rfl ?_
  refine zr_if_lt (pc := 1) hV 21 dX4_byteAt_1 (by decide) (by omega) (fun c1 => ?_) (fun c1 => ?_)
  · show V 21 [some (ZR 132), some (ZI k)] [] 284 σ
    refine zr_iconst (pc := 21) hV (-1) dX4_byteAt_21 rfl ?_
    show V 22 [some (ZR 132), some (ZI k)] [ZI (-1)] 284 σ
    exact zr_iret (pc := 22) hV dX4_byteAt_22 rfl rfl ⟨rfl, _, rfl, ⟨by decide, by decide⟩, trivial⟩
  · show V 4 [some (ZR 132), some (ZI k)] [] 284 σ
    refine zr_iload_n (pc := 4) hV dX4_byteAt_4 rfl rfl ?_
    refine zr_aload_n (pc := 5) hV dX4_byteAt_5 rfl rfl ?_
    refine zr_getI (pc := 6) hV 3 dX4_byteAt_6 fX4_154 rfl rfl (zc_k132 zc_s132) (zc_pos zc_s132 rfl) ?_
    have t2 := zc_g132_3 hσ zc_s132
    refine zr_icmp_ge (pc := 9) hV 21 dX4_byteAt_9 (by decide) (by omega) (by omega) (fun c3 => ?_) (fun c3 => ?_)
    · show V 21 [some (ZR 132), some (ZI k)] [] 284 σ
      refine zr_iconst (pc := 21) hV (-1) dX4_byteAt_21 rfl ?_
      show V 22 [some (ZR 132), some (ZI k)] [ZI (-1)] 284 σ
      exact zr_iret (pc := 22) hV dX4_byteAt_22 rfl rfl ⟨rfl, _, rfl, ⟨by decide, by decide⟩, trivial⟩
    · show V 12 [some (ZR 132), some (ZI k)] [] 284 σ
      refine zr_aload_n (pc := 12) hV dX4_byteAt_12 rfl rfl ?_
      refine zr_getR (pc := 13) hV 2 133 dX4_byteAt_13 fX4_11 rfl rfl (zc_k132 zc_s132) (zc_pos zc_s132 rfl) (zc_g132_2 hσ zc_s132) (by decide) ?_
      refine zr_iload_n (pc := 16) hV dX4_byteAt_16 rfl rfl ?_
      refine zr_iald (pc := 17) hV dX4_byteAt_17 (zc_k133 zc_s133) (zc_pos zc_s133 rfl) rfl (by omega) ?_
      have t4 := zc_ga133 hσ zc_s133 k
      refine zr_goto (pc := 18) hV 22 dX4_byteAt_18 (by decide) ?_
      show V 22 [some (ZR 132), some (ZI k)] [ZI (σ 133 k)] 284 σ
      exact zr_iret (pc := 22) hV dX4_byteAt_22 rfl rfl ⟨rfl, _, rfl, (by omega), trivial⟩

