set_option maxHeartbeats 800000 in
theorem c_X4_writeByte {σ : zq_S} (hσ : zc_T σ) (b : Int) (q0 : zq_in b) : zq_C zc_w yX4_writeByte cX4_writeByte 2 (none) 0 0 284 284 [ZR 132, ZI b] σ (zq_pv (fun τ => zc_T τ ∧ zc_Fr [(132, 3), (133, -1)] σ τ ∧ (True))) := by
  refine zq_C_of (by decide) (Nat.le_refl _) (Nat.le_of_ble_eq_true rfl) [some (ZR 132), some (ZI b)] rfl (fun V hV => ?_)
  have hFσ := zc_Fr_rf [(132, 3), (133, -1)] σ
  show V 0 [some (ZR 132), some (ZI b)] [] 284 σ
  refine zr_aload_n (pc := 0) hV dX4_writeByte_0 rfl rfl ?_
  refine zr_getI (pc := 1) hV 3 dX4_writeByte_1 fX4_154 rfl rfl (zc_k132 zc_s132) (zc_pos zc_s132 rfl) ?_
  have t1 := zc_g132_3 hσ zc_s132
  refine zr_bipush (pc := 4) hV 16 dX4_writeByte_4 (by decide) ?_
  refine zr_icmp_ge (pc := 6) hV 26 dX4_writeByte_6 (by decide) (by omega) ⟨by decide, by decide⟩ (fun c2 => ?_) (fun c2 => ?_)
  · show V 26 [some (ZR 132), some (ZI b)] [] 284 σ
    exact zr_vret (pc := 26) hV dX4_writeByte_26 rfl rfl ⟨rfl, hσ, hFσ, trivial⟩
  · show V 9 [some (ZR 132), some (ZI b)] [] 284 σ
    refine zr_aload_n (pc := 9) hV dX4_writeByte_9 rfl rfl ?_
    refine zr_getR (pc := 10) hV 2 133 dX4_writeByte_10 fX4_11 rfl rfl (zc_k132 zc_s132) (zc_pos zc_s132 rfl) (zc_g132_2 hσ zc_s132) (by decide) ?_
    refine zr_aload_n (pc := 13) hV dX4_writeByte_13 rfl rfl ?_
    refine zr_dup (pc := 14) hV dX4_writeByte_14 (fun _ => rfl) ?_
    refine zr_getI (pc := 15) hV 3 dX4_writeByte_15 fX4_154 rfl rfl (zc_k132 zc_s132) (zc_pos zc_s132 rfl) ?_
    have t3 := zc_g132_3 hσ zc_s132
    refine zr_dup_x1 (pc := 18) hV dX4_writeByte_18 (fun _ => rfl) (fun _ => rfl) ?_
    refine zr_iconst (pc := 19) hV 1 dX4_writeByte_19 rfl ?_
    refine zr_iadd (pc := 20) hV dX4_writeByte_20 ?_
    refine zr_putI (pc := 21) hV 3 dX4_writeByte_21 fX4_154 rfl rfl rfl (zc_k132 zc_s132) (zc_pos zc_s132 rfl) (fun σ21 eσ21 => ?_)
    have hσ21 : zc_T σ21 := zc_u132_3 eσ21 hσ zc_s132 (by omega)
    have hFσ21 := zc_Fw eσ21 zc_s132 rfl hFσ
    refine zr_iload_n (pc := 24) hV dX4_writeByte_24 rfl rfl ?_
    refine zr_iast (pc := 25) hV dX4_writeByte_25 (zc_k133 zc_s133) (zc_pos zc_s133 rfl) rfl (by omega) (fun σ25 eσ25 => ?_)
    have hσ25 : zc_T σ25 := zc_ua133 eσ25 hσ21 zc_s133 (by omega)
    have hFσ25 := zc_Fa eσ25 zc_s133 rfl hFσ21
    show V 26 [some (ZR 132), some (ZI b)] [] 284 σ25
    exact zr_vret (pc := 26) hV dX4_writeByte_26 rfl rfl ⟨rfl, hσ25, hFσ25, trivial⟩
set_option maxHeartbeats 800000 in
theorem c_X4_writeNumber {σ : zq_S} (hσ : zc_T σ) (number : Int) (q0 : zq_in number) : zq_C zc_w yX4_writeNumber cX4_writeNumber 2 (none) 1 21 284 284 [ZR 132, ZI number] σ (zq_pv (fun τ => zc_T τ ∧ zc_Fr [(132, 3), (133, -1)] σ τ ∧ (True))) := by
  refine zq_C_of (by decide) (Nat.le_refl _) (Nat.le_of_ble_eq_true rfl) [some (ZR 132), some (ZI number)] rfl (fun V hV => ?_)
  have hFσ := zc_Fr_rf [(132, 3), (133, -1)] σ
  show V 0 [some (ZR 132), some (ZI number)] [] 284 σ
  refine zr_iload_n (pc := 0) hV dX4_writeNumber_0 rfl rfl ?_
  refine zr_bipush (pc := 1) hV 100 dX4_writeNumber_1 (by decide) ?_
  have J17 : ∀ (σ_17 : zq_S), (zc_T σ_17) → (zc_Fr [(132, 3), (133, -1)] σ σ_17) → V 17 [some (ZR 132), some (ZI number)] [] 284 σ_17 := by
    intro σ_17 hσ_17 hFσ_17
    show V 17 [some (ZR 132), some (ZI number)] [] 284 σ_17
    refine zr_iload_n (pc := 17) hV dX4_writeNumber_17 rfl rfl ?_
    refine zr_bipush (pc := 18) hV 10 dX4_writeNumber_18 (by decide) ?_
    refine zr_icmp_lt (pc := 20) hV 37 dX4_writeNumber_20 (by decide) (by omega) ⟨by decide, by decide⟩ (fun c1 => ?_) (fun c1 => ?_)
    · show V 37 [some (ZR 132), some (ZI number)] [] 284 σ_17
      refine zr_aload_n (pc := 37) hV dX4_writeNumber_37 rfl rfl ?_
      refine zr_bipush (pc := 38) hV 48 dX4_writeNumber_38 (by decide) ?_
      refine zr_iload_n (pc := 40) hV dX4_writeNumber_40 rfl rfl ?_
      refine zr_bipush (pc := 41) hV 10 dX4_writeNumber_41 (by decide) ?_
      refine zr_irem (pc := 43) hV dX4_writeNumber_43 ⟨by decide, by decide⟩ (by omega) ?_
      have t2 := zq_rem_in number 10
      refine zr_iadd (pc := 44) hV dX4_writeNumber_44 ?_
      refine zr_any (pc := 45) hV (fun y45 hy45 _ => ?_)
      refine zr_callVv (pc := 45) hV [ZI y45] (st := []) (c_X4_writeByte (σ := σ_17) hσ_17 y45 (by omega)) dX4_writeNumber_45 mX4_157 (zc_k132 zc_s132) (zc_pos zc_s132 rfl) (by decide) (Nat.le_of_ble_eq_true rfl) (Nat.le_refl _) (fun σ45 pσ45 => ?_)
      obtain ⟨hσ45, hfσ45, pσ45⟩ := pσ45
      have hFσ45 := zc_Fc hfσ45 rfl hFσ_17
      exact zr_vret (pc := 48) hV dX4_writeNumber_48 rfl rfl ⟨rfl, hσ45, hFσ45, trivial⟩
    · show V 23 [some (ZR 132), some (ZI number)] [] 284 σ_17
      refine zr_aload_n (pc := 23) hV dX4_writeNumber_23 rfl rfl ?_
      refine zr_bipush (pc := 24) hV 48 dX4_writeNumber_24 (by decide) ?_
      refine zr_iload_n (pc := 26) hV dX4_writeNumber_26 rfl rfl ?_
      refine zr_bipush (pc := 27) hV 10 dX4_writeNumber_27 (by decide) ?_
      refine zr_idiv (pc := 29) hV dX4_writeNumber_29 ⟨by decide, by decide⟩ (by omega) ?_
      have t3 := zq_div_c (x := number) 10 (by decide) (by omega)
      refine zr_bipush (pc := 30) hV 10 dX4_writeNumber_30 (by decide) ?_
      refine zr_irem (pc := 32) hV dX4_writeNumber_32 ⟨by decide, by decide⟩ (by omega) ?_
      have t4 := zq_rem_c (x := zq_div number 10) 10 (by decide) (by omega)
      refine zr_iadd (pc := 33) hV dX4_writeNumber_33 ?_
      refine zr_callVv (pc := 34) hV [ZI (48 + (zq_rem (zq_div number 10) 10))] (st := []) (c_X4_writeByte (σ := σ_17) hσ_17 (48 + (zq_rem (zq_div number 10) 10)) (by omega)) dX4_writeNumber_34 mX4_157 (zc_k132 zc_s132) (zc_pos zc_s132 rfl) (by decide) (Nat.le_of_ble_eq_true rfl) (Nat.le_refl _) (fun σ34 pσ34 => ?_)
      obtain ⟨hσ34, hfσ34, pσ34⟩ := pσ34
      have hFσ34 := zc_Fc hfσ34 rfl hFσ_17
      show V 37 [some (ZR 132), some (ZI number)] [] 284 σ34
      refine zr_aload_n (pc := 37) hV dX4_writeNumber_37 rfl rfl ?_
      refine zr_bipush (pc := 38) hV 48 dX4_writeNumber_38 (by decide) ?_
      refine zr_iload_n (pc := 40) hV dX4_writeNumber_40 rfl rfl ?_
      refine zr_bipush (pc := 41) hV 10 dX4_writeNumber_41 (by decide) ?_
      refine zr_irem (pc := 43) hV dX4_writeNumber_43 ⟨by decide, by decide⟩ (by omega) ?_
      have t5 := zq_rem_c (x := number) 10 (by decide) (by omega)
      refine zr_iadd (pc := 44) hV dX4_writeNumber_44 ?_
      refine zr_callVv (pc := 45) hV [ZI (48 + (zq_rem number 10))] (st := []) (c_X4_writeByte (σ := σ34) hσ34 (48 + (zq_rem number 10)) (by omega)) dX4_writeNumber_45 mX4_157 (zc_k132 zc_s132) (zc_pos zc_s132 rfl) (by decide) (Nat.le_of_ble_eq_true rfl) (Nat.le_refl _) (fun σ45 pσ45 => ?_)
      obtain ⟨hσ45, hfσ45, pσ45⟩ := pσ45
      have hFσ45 := zc_Fc hfσ45 rfl hFσ34
      exact zr_vret (pc := 48) hV dX4_writeNumber_48 rfl rfl ⟨rfl, hσ45, hFσ45, trivial⟩
  refine zr_icmp_lt (pc := 3) hV 17 dX4_writeNumber_3 (by decide) (by omega) ⟨by decide, by decide⟩ (fun c6 => ?_) (fun c6 => ?_)
  · exact J17 σ hσ hFσ
  · show V 6 [some (ZR 132), some (ZI number)] [] 284 σ
    refine zr_aload_n (pc := 6) hV dX4_writeNumber_6 rfl rfl ?_
    refine zr_bipush (pc := 7) hV 48 dX4_writeNumber_7 (by decide) ?_
    refine zr_iload_n (pc := 9) hV dX4_writeNumber_9 rfl rfl ?_
    refine zr_bipush (pc := 10) hV 100 dX4_writeNumber_10 (by decide) ?_
    refine zr_idiv (pc := 12) hV dX4_writeNumber_12 ⟨by decide, by decide⟩ (by omega) ?_
    have t7 := zq_div_c (x := number) 100 (by decide) (by omega)
    refine zr_iadd (pc := 13) hV dX4_writeNumber_13 ?_
    refine zr_callVv (pc := 14) hV [ZI (48 + (zq_div number 100))] (st := []) (c_X4_writeByte (σ := σ) hσ (48 + (zq_div number 100)) (by omega)) dX4_writeNumber_14 mX4_157 (zc_k132 zc_s132) (zc_pos zc_s132 rfl) (by decide) (Nat.le_of_ble_eq_true rfl) (Nat.le_refl _) (fun σ14 pσ14 => ?_)
    obtain ⟨hσ14, hfσ14, pσ14⟩ := pσ14
    have hFσ14 := zc_Fc hfσ14 rfl hFσ
    exact J17 σ14 hσ14 hFσ14
set_option maxHeartbeats 800000 in
theorem c_X4_writeLine {σ : zq_S} (hσ : zc_T σ) (order : Int) (korder : zc_kd order = 4) (bits : Int) (q0 : zq_in bits) : zq_C zc_w yX4_writeLine cX4_writeLine 5 (none) 2 42 284 284 [ZR 132, ZR order, ZI bits] σ (zq_pv (fun τ => zc_T τ ∧ zc_Fr [(132, 3), (133, -1)] σ τ ∧ (True))) := by
  refine zq_C_of (by decide) (Nat.le_refl _) (Nat.le_of_ble_eq_true rfl) [some (ZR 132), some (ZR order), some (ZI bits), none, none] rfl (fun V hV => ?_)
  have poorder := zc_pos korder rfl
  have hFσ := zc_Fr_rf [(132, 3), (133, -1)] σ
  show V 0 [some (ZR 132), some (ZR order), some (ZI bits), none, none] [] 284 σ
  refine zr_aload_n (pc := 0) hV dX4_writeLine_0 rfl rfl ?_
  refine zr_iconst (pc := 1) hV 0 dX4_writeLine_1 rfl ?_
  refine zr_putI (pc := 2) hV 3 dX4_writeLine_2 fX4_154 rfl rfl rfl (zc_k132 zc_s132) (zc_pos zc_s132 rfl) (fun σ2 eσ2 => ?_)
  have hσ2 : zc_T σ2 := zc_u132_3 eσ2 hσ zc_s132 (by omega)
  have hFσ2 := zc_Fw eσ2 zc_s132 rfl hFσ
  refine zr_bipush (pc := 5) hV 16 dX4_writeLine_5 (by decide) ?_
  refine zr_istore_n (pc := 7) hV [some (ZR 132), some (ZR order), some (ZI bits), some (ZI 16), none] dX4_writeLine_7 rfl (by decide) rfl rfl ?_
  have L8 : ∀ (fuel : Nat) (x3_8 : Int) (σ_8 : zq_S), ((-8) ≤ x3_8 ∧ x3_8 ≤ 16) → (zc_T σ_8) → (zc_Fr [(132, 3), (133, -1)] σ σ_8) → x3_8 - (-8) < (fuel : Int) → V 8 [some (ZR 132), some (ZR order), some (ZI bits), some (ZI x3_8), none] [] 284 σ_8 := by
    intro fuel
    induction fuel with
    | zero =>
      intro x3_8 σ_8 hx3_8 hσ_8 hFσ_8 hm8
      exfalso; omega
    | succ fuel ih =>
      intro x3_8 σ_8 hx3_8 hσ_8 hFσ_8 hm8
      have ih8 := ih
      show V 8 [some (ZR 132), some (ZR order), some (ZI bits), some (ZI x3_8), none] [] 284 σ_8
      refine zr_iload_n (pc := 8) hV dX4_writeLine_8 rfl rfl ?_
      refine zr_if_lt (pc := 9) hV 41 dX4_writeLine_9 (by decide) (by omega) (fun c1 => ?_) (fun c1 => ?_)
      · show V 41 [some (ZR 132), some (ZR order), some (ZI bits), some (ZI x3_8), none] [] 284 σ_8
        refine zr_bipush (pc := 41) hV 32 dX4_writeLine_41 (by decide) ?_
        refine zr_istore_n (pc := 43) hV [some (ZR 132), some (ZR order), some (ZI bits), some (ZI 32), none] dX4_writeLine_43 rfl (by decide) rfl rfl ?_
        refine zr_iconst (pc := 44) hV 0 dX4_writeLine_44 rfl ?_
        refine zr_istore (pc := 45) hV [some (ZR 132), some (ZR order), some (ZI bits), some (ZI 32), some (ZI 0)] dX4_writeLine_45 (by decide) rfl rfl ?_
        have L47 : ∀ (fuel : Nat) (x3_47 : Int) (x4_47 : Int) (σ_47 : zq_S), (32 ≤ x3_47 ∧ x3_47 ≤ 2147483647) → (0 ≤ x4_47 ∧ x4_47 ≤ 4) → (zc_T σ_47) → (zc_Fr [(132, 3), (133, -1)] σ σ_47) → 4 - x4_47 < (fuel : Int) → V 47 [some (ZR 132), some (ZR order), some (ZI bits), some (ZI x3_47), some (ZI x4_47)] [] 284 σ_47 := by
          intro fuel
          induction fuel with
          | zero =>
            intro x3_47 x4_47 σ_47 hx3_47 hx4_47 hσ_47 hFσ_47 hm47
            exfalso; omega
          | succ fuel ih =>
            intro x3_47 x4_47 σ_47 hx3_47 hx4_47 hσ_47 hFσ_47 hm47
            have ih47 := ih
            show V 47 [some (ZR 132), some (ZR order), some (ZI bits), some (ZI x3_47), some (ZI x4_47)] [] 284 σ_47
            refine zr_iload (pc := 47) hV dX4_writeLine_47 rfl ?_
            refine zr_iconst (pc := 49) hV 3 dX4_writeLine_49 rfl ?_
            refine zr_icmp_gt (pc := 50) hV 87 dX4_writeLine_50 (by decide) (by omega) ⟨by decide, by decide⟩ (fun c2 => ?_) (fun c2 => ?_)
            · show V 87 [some (ZR 132), some (ZR order), some (ZI bits), some (ZI x3_47), some (ZI x4_47)] [] 284 σ_47
              exact zr_vret (pc := 87) hV dX4_writeLine_87 rfl rfl ⟨rfl, hσ_47, hFσ_47, trivial⟩
            · show V 53 [some (ZR 132), some (ZR order), some (ZI bits), some (ZI x3_47), some (ZI x4_47)] [] 284 σ_47
              refine zr_aload_n (pc := 53) hV dX4_writeLine_53 rfl rfl ?_
              refine zr_iload (pc := 54) hV dX4_writeLine_54 rfl ?_
              refine zr_callVp (pc := 56) hV [ZI x4_47] (st := []) (c_X3_hasField (σ := σ_47) hσ_47 order korder x4_47 (by omega)) dX4_writeLine_56 mX4_99 (zc_k4 korder) (zc_pos korder rfl) (by decide) (Nat.le_of_ble_eq_true rfl) (Nat.le_refl _) (fun r56 hr56 pr56 => ?_)
              refine zr_if_eq (pc := 59) hV 81 dX4_writeLine_59 (by decide) (by omega) (fun c3 => ?_) (fun c3 => ?_)
              · show V 81 [some (ZR 132), some (ZR order), some (ZI bits), some (ZI x3_47), some (ZI x4_47)] [] 284 σ_47
                refine zr_iinc (pc := 81) hV [some (ZR 132), some (ZR order), some (ZI bits), some (ZI x3_47), some (ZI (x4_47 + 1))] (x4_47 + 1) dX4_writeLine_81 rfl rfl (by decide) rfl rfl ?_
                refine zr_goto (pc := 84) hV 47 dX4_writeLine_84 (by decide) ?_
                exact ih47 x3_47 (x4_47 + 1) σ_47 (by omega) (by omega) hσ_47 hFσ_47 (by omega)
              · show V 62 [some (ZR 132), some (ZR order), some (ZI bits), some (ZI x3_47), some (ZI x4_47)] [] 284 σ_47
                refine zr_aload_n (pc := 62) hV dX4_writeLine_62 rfl rfl ?_
                refine zr_iload_n (pc := 63) hV dX4_writeLine_63 rfl rfl ?_
                refine zr_callVv (pc := 64) hV [ZI x3_47] (st := []) (c_X4_writeByte (σ := σ_47) hσ_47 x3_47 (by omega)) dX4_writeLine_64 mX4_157 (zc_k132 zc_s132) (zc_pos zc_s132 rfl) (by decide) (Nat.le_of_ble_eq_true rfl) (Nat.le_refl _) (fun σ64 pσ64 => ?_)
                obtain ⟨hσ64, hfσ64, pσ64⟩ := pσ64
                have hFσ64 := zc_Fc hfσ64 rfl hFσ_47
                refine zr_aload_n (pc := 67) hV dX4_writeLine_67 rfl rfl ?_
                refine zr_aload_n (pc := 68) hV dX4_writeLine_68 rfl rfl ?_
                refine zr_iload_n (pc := 69) hV dX4_writeLine_69 rfl rfl ?_
                refine zr_iload (pc := 70) hV dX4_writeLine_70 rfl ?_
                refine zr_callVp (pc := 72) hV [ZI bits, ZI x4_47] (st := [ZR 132]) (c_X3_fieldOf (σ := σ64) hσ64 order korder bits x4_47 (by omega) (by omega)) dX4_writeLine_72 mX4_161 (zc_k4 korder) (zc_pos korder rfl) (by decide) (Nat.le_of_ble_eq_true rfl) (Nat.le_refl _) (fun r72 hr72 pr72 => ?_)
                refine zr_callVv (pc := 75) hV [ZI r72] (st := []) (c_X4_writeNumber (σ := σ64) hσ64 r72 (by omega)) dX4_writeLine_75 mX4_165 (zc_k132 zc_s132) (zc_pos zc_s132 rfl) (by decide) (Nat.le_of_ble_eq_true rfl) (Nat.le_refl _) (fun σ75 pσ75 => ?_)
                obtain ⟨hσ75, hfσ75, pσ75⟩ := pσ75
                have hFσ75 := zc_Fc hfσ75 rfl hFσ64
                refine zr_bipush (pc := 78) hV 44 dX4_writeLine_78 (by decide) ?_
                refine zr_istore_n (pc := 80) hV [some (ZR 132), some (ZR order), some (ZI bits), some (ZI 44), some (ZI x4_47)] dX4_writeLine_80 rfl (by decide) rfl rfl ?_
                show V 81 [some (ZR 132), some (ZR order), some (ZI bits), some (ZI 44), some (ZI x4_47)] [] 284 σ75
                refine zr_iinc (pc := 81) hV [some (ZR 132), some (ZR order), some (ZI bits), some (ZI 44), some (ZI (x4_47 + 1))] (x4_47 + 1) dX4_writeLine_81 rfl rfl (by decide) rfl rfl ?_
                refine zr_goto (pc := 84) hV 47 dX4_writeLine_84 (by decide) ?_
                exact ih47 44 (x4_47 + 1) σ75 (by omega) (by omega) hσ75 hFσ75 (by omega)
        exact L47 (4 - (0 : Int) + 1 : Int).toNat 32 0 σ_8 (by omega) (by omega) hσ_8 hFσ_8 (by omega)
      · show V 12 [some (ZR 132), some (ZR order), some (ZI bits), some (ZI x3_8), none] [] 284 σ_8
        refine zr_aload_n (pc := 12) hV dX4_writeLine_12 rfl rfl ?_
        refine zr_getI (pc := 13) hV 0 dX4_writeLine_13 fX4_66 rfl rfl (zc_k4 korder) (zc_pos korder rfl) ?_
        have t4 := zc_g4_0 hσ_8 korder
        have t5 : σ_8 order 0 = σ order 0 := hFσ_8 _ _ (zc_out_at korder rfl)
        refine zr_iload_n (pc := 16) hV dX4_writeLine_16 rfl rfl ?_
        refine zr_ishr (pc := 17) hV dX4_writeLine_17 ?_
        have t6 := zq_shr_in (σ_8 order 0) x3_8
        refine zr_if_eq (pc := 18) hV 35 dX4_writeLine_18 (by decide) (by omega) (fun c7 => ?_) (fun c7 => ?_)
        · show V 35 [some (ZR 132), some (ZR order), some (ZI bits), some (ZI x3_8), none] [] 284 σ_8
          refine zr_iinc (pc := 35) hV [some (ZR 132), some (ZR order), some (ZI bits), some (ZI (x3_8 + (-8))), none] (x3_8 + (-8)) dX4_writeLine_35 rfl rfl (by decide) rfl rfl ?_
          refine zr_goto (pc := 38) hV 8 dX4_writeLine_38 (by decide) ?_
          exact ih8 (x3_8 + (-8)) σ_8 (by omega) hσ_8 hFσ_8 (by omega)
        · show V 21 [some (ZR 132), some (ZR order), some (ZI bits), some (ZI x3_8), none] [] 284 σ_8
          refine zr_aload_n (pc := 21) hV dX4_writeLine_21 rfl rfl ?_
          refine zr_aload_n (pc := 22) hV dX4_writeLine_22 rfl rfl ?_
          refine zr_getI (pc := 23) hV 0 dX4_writeLine_23 fX4_66 rfl rfl (zc_k4 korder) (zc_pos korder rfl) ?_
          have t8 := zc_g4_0 hσ_8 korder
          have t9 : σ_8 order 0 = σ order 0 := hFσ_8 _ _ (zc_out_at korder rfl)
          refine zr_iload_n (pc := 26) hV dX4_writeLine_26 rfl rfl ?_
          refine zr_ishr (pc := 27) hV dX4_writeLine_27 ?_
          have t10 := zq_shr_in (σ_8 order 0) x3_8
          refine zr_sipush (pc := 28) hV 255 dX4_writeLine_28 (by decide) ?_
          refine zr_iand (pc := 31) hV dX4_writeLine_31 ?_
          have t11 := zq_and_mask (zq_shr (σ_8 order 0) x3_8) 8 255 256 (by decide) (by decide) (by decide)
          have t12 := zc_g4_0 hσ_8 korder
          have t13 : σ_8 order 0 = σ order 0 := hFσ_8 _ _ (zc_out_at korder rfl)
          refine zr_callVv (pc := 32) hV [ZI (zq_and (zq_shr (σ_8 order 0) x3_8) 255)] (st := []) (c_X4_writeByte (σ := σ_8) hσ_8 (zq_and (zq_shr (σ_8 order 0) x3_8) 255) (by omega)) dX4_writeLine_32 mX4_157 (zc_k132 zc_s132) (zc_pos zc_s132 rfl) (by decide) (Nat.le_of_ble_eq_true rfl) (Nat.le_refl _) (fun σ32 pσ32 => ?_)
          obtain ⟨hσ32, hfσ32, pσ32⟩ := pσ32
          have hFσ32 := zc_Fc hfσ32 rfl hFσ_8
          show V 35 [some (ZR 132), some (ZR order), some (ZI bits), some (ZI x3_8), none] [] 284 σ32
          refine zr_iinc (pc := 35) hV [some (ZR 132), some (ZR order), some (ZI bits), some (ZI (x3_8 + (-8))), none] (x3_8 + (-8)) dX4_writeLine_35 rfl rfl (by decide) rfl rfl ?_
          refine zr_goto (pc := 38) hV 8 dX4_writeLine_38 (by decide) ?_
          exact ih8 (x3_8 + (-8)) σ32 (by omega) hσ32 hFσ32 (by omega)
  exact L8 ((16 : Int) - (-8) + 1 : Int).toNat 16 σ2 (by omega) hσ2 hFσ2 (by omega)
set_option maxHeartbeats 800000 in
theorem c_X4_byteAt {σ : zq_S} (hσ : zc_T σ) (k : Int) (q0 : zq_in k) : zq_C zc_w yX4_byteAt cX4_byteAt 2 (some .int) 0 0 284 284 [ZR 132, ZI k] σ (zq_pp σ (fun r => True)) := by
  refine zq_C_of (by decide) (Nat.le_refl _) (Nat.le_of_ble_eq_true rfl) [some (ZR 132), some (ZI k)] rfl (fun V hV => ?_)
  show V 0 [some (ZR 132), some (ZI k)] [] 284 σ
  refine zr_iload_n (pc := 0) hV dX4_byteAt_0 rfl rfl ?_
  refine zr_if_lt (pc := 1) hV 21 dX4_byteAt_1 (by decide) (by omega) (fun c1 => ?_) (fun c1 => ?_)
  · show V 21 [some (ZR 132), some (ZI k)] [] 284 σ
    refine zr_iconst (pc := 21) hV (-1) dX4_byteAt_21 rfl ?_
    show V 22 [some (ZR 132), some (ZI k)] [ZI (-1)] 284 σ
    exact zr_iret (pc := 22) hV dX4_byteAt_22 rfl rfl ⟨rfl, _, rfl, ⟨by decide, by decide⟩, trivial⟩
  · show V 4 [some (ZR 132), some (ZI k)] [] 284 σ
    refine zr_iload_n (pc := 4) hV dX4_byteAt_4 rfl rfl ?_
    refine zr_aload_n (pc := 5) hV dX4_byteAt_5 rfl rfl ?_
    refine zr_getI (pc := 6) hV 3 dX4_byteAt_6 fX4_154 rfl rfl (zc_k132 zc_s132) (zc_pos zc_s132 rfl) ?_
    have t2 := zc_g132_3 hσ zc_s132
    refine zr_icmp_ge (pc := 9) hV 21 dX4_byteAt_9 (by decide) (by omega) (by omega) (fun c3 => ?_) (fun c3 => ?_)
    · show V 21 [some (ZR 132), some (ZI k)] [] 284 σ
      refine zr_iconst (pc := 21) hV (-1) dX4_byteAt_21 rfl ?_
      show V 22 [some (ZR 132), some (ZI k)] [ZI (-1)] 284 σ
      exact zr_iret (pc := 22) hV dX4_byteAt_22 rfl rfl ⟨rfl, _, rfl, ⟨by decide, by decide⟩, trivial⟩
    · show V 12 [some (ZR 132), some (ZI k)] [] 284 σ
      refine zr_aload_n (pc := 12) hV dX4_byteAt_12 rfl rfl ?_
      refine zr_getR (pc := 13) hV 2 133 dX4_byteAt_13 fX4_11 rfl rfl (zc_k132 zc_s132) (zc_pos zc_s132 rfl) (zc_g132_2 hσ zc_s132) (by decide) ?_
      refine zr_iload_n (pc := 16) hV dX4_byteAt_16 rfl rfl ?_
      refine zr_iald (pc := 17) hV dX4_byteAt_17 (zc_k133 zc_s133) (zc_pos zc_s133 rfl) rfl (by omega) ?_
      have t4 := zc_ga133 hσ zc_s133 k
      refine zr_goto (pc := 18) hV 22 dX4_byteAt_18 (by decide) ?_
      show V 22 [some (ZR 132), some (ZI k)] [ZI (σ 133 k)] 284 σ
      exact zr_iret (pc := 22) hV dX4_byteAt_22 rfl rfl ⟨rfl, _, rfl, (by omega), trivial⟩

