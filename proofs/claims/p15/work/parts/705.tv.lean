set_option maxHeartbeats 800000 in
theorem c_X8_append_2 {σ : zq_S} (hσ : zc_T σ) (w : Int) (n : Int) (q0 : zq_inL w) (q1 : zq_in n) : zq_C zc_w yX8_append cX8_append 6 (some .int) 0 0 284 284 [ZR 1, ZL w, ZI n] σ (zq_pi (fun r τ => zc_T τ ∧ zc_Fr [(1, 1), (2, -1)] σ τ ∧ (True) ∧ zq_hid (zu_ty (σ 2) (τ 2) (σ 1 1) (τ 1 1) w n r))) := by
  refine zq_C_of (by decide) (Nat.le_refl _) (Nat.le_of_ble_eq_true rfl) [some (ZR 1), some (ZL w), none, some (ZI n), none, none] rfl (fun V hV => ?_)
  have hFσ := zc_Fr_rf [(1, 1), (2, -1)] σ
  show V 0 [some (ZR 1), some (ZL w), none, some (ZI n), none, none] [] 284 σ
  refine zr_iload_n (pc := 0) hV dX8_append_0 rfl rfl ?_
  refine zr_iconst (pc := 1) hV 1 dX8_append_1 rfl ?_
  refine zr_icmp_lt (pc := 2) hV 11 dX8_append_2 (by decide) (by omega) ⟨by decide, by decide⟩ (fun c1 => ?_) (fun c1 => ?_)
  · show V 11 [some (ZR 1), some (ZL w), none, some (ZI n), none, none] [] 284 σ
    refine zr_iconst (pc := 11) hV (-1) dX8_append_11 rfl ?_
    have t2 := zc_g1_1 hσ zc_s1
    exact zr_iret (pc := 12) hV dX8_append_12 rfl rfl ⟨_, rfl, ⟨by decide, by decide⟩, hσ, hFσ, trivial, (show zu_ty (σ 2) (σ 2) (σ 1 1) (σ 1 1) w n ((-1) : Int) from ⟨fun _ => ⟨by omega, rfl, fun _ => rfl⟩, fun h => absurd (And.intro h.1 h.2.1) (by omega)⟩)⟩
  · show V 5 [some (ZR 1), some (ZL w), none, some (ZI n), none, none] [] 284 σ
    refine zr_iload_n (pc := 5) hV dX8_append_5 rfl rfl ?_
    refine zr_bipush (pc := 6) hV 8 dX8_append_6 (by decide) ?_
    refine zr_icmp_le (pc := 8) hV 13 dX8_append_8 (by decide) (by omega) ⟨by decide, by decide⟩ (fun c3 => ?_) (fun c3 => ?_)
    · show V 13 [some (ZR 1), some (ZL w), none, some (ZI n), none, none] [] 284 σ
      refine zr_iconst (pc := 13) hV 0 dX8_append_13 rfl ?_
      refine zr_istore (pc := 14) hV [some (ZR 1), some (ZL w), none, some (ZI n), some (ZI 0), none] dX8_append_14 (by decide) rfl rfl ?_
      have L16 : ∀ (fuel : Nat) (x4_16 : Int), (0 ≤ x4_16 ∧ x4_16 ≤ 8) → (zq_hid (∀ i, 0 ≤ i → i < x4_16 → 32 ≤ zu_by w i ∧ zu_by w i ≤ 126)) → 8 - x4_16 < (fuel : Int) → V 16 [some (ZR 1), some (ZL w), none, some (ZI n), some (ZI x4_16), none] [] 284 σ := by
        intro fuel
        induction fuel with
        | zero =>
          intro x4_16 hx4_16 hi16_0 hm16
          exfalso; omega
        | succ fuel ih =>
          intro x4_16 hx4_16 hi16_0 hm16
          have ih16 := ih
          show V 16 [some (ZR 1), some (ZL w), none, some (ZI n), some (ZI x4_16), none] [] 284 σ
          refine zr_iload (pc := 16) hV dX8_append_16 rfl ?_
          refine zr_iload_n (pc := 18) hV dX8_append_18 rfl rfl ?_
          refine zr_icmp_ge (pc := 19) hV 58 dX8_append_19 (by decide) (by omega) (by omega) (fun c4 => ?_) (fun c4 => ?_)
          · show V 58 [some (ZR 1), some (ZL w), none, some (ZI n), some (ZI x4_16), none] [] 284 σ
            have zok : zu_ok w n := ⟨by omega, by omega, fun i h0 h1 => hi16_0 i h0 (by omega)⟩
            refine zr_aload_n (pc := 58) hV dX8_append_58 rfl rfl ?_
            refine zr_getI (pc := 59) hV 1 dX8_append_59 fX8_15 rfl rfl (zc_k1 zc_s1) (zc_pos zc_s1 rfl) ?_
            have t5 := zc_g1_1 hσ zc_s1
            refine zr_iload_n (pc := 62) hV dX8_append_62 rfl rfl ?_
            refine zr_iadd (pc := 63) hV dX8_append_63 ?_
            refine zr_bipush (pc := 64) hV 80 dX8_append_64 (by decide) ?_
            refine zr_icmp_le (pc := 66) hV 72 dX8_append_66 (by decide) (by omega) ⟨by decide, by decide⟩ (fun c6 => ?_) (fun c6 => ?_)
            · show V 72 [some (ZR 1), some (ZL w), none, some (ZI n), some (ZI x4_16), none] [] 284 σ
              refine zr_iload_n (pc := 72) hV dX8_append_72 rfl rfl ?_
              refine zr_iconst (pc := 73) hV 1 dX8_append_73 rfl ?_
              refine zr_isub (pc := 74) hV dX8_append_74 ?_
              refine zr_istore (pc := 75) hV [some (ZR 1), some (ZL w), none, some (ZI n), some (ZI (n - 1)), none] dX8_append_75 (by decide) rfl rfl ?_
              have L77 : ∀ (fuel : Nat) (x4_77 : Int) (σ_77 : zq_S), ((-1) ≤ x4_77 ∧ x4_77 ≤ 7) → (zc_T σ_77) → (zc_Fr [(1, 1), (2, -1)] σ σ_77) → (σ_77 1 1 = σ 1 1 + n - 1 - x4_77) → (zq_hid (∀ j, σ_77 2 j = if σ 1 1 ≤ j ∧ j < σ 1 1 + (n - 1 - x4_77) then zu_by w (n - 1 - (j - σ 1 1)) else σ 2 j)) → (x4_77 ≤ n - 1) → x4_77 - (-1) < (fuel : Int) → V 77 [some (ZR 1), some (ZL w), none, none, some (ZI x4_77), none] [] 284 σ_77 := by
                intro fuel
                induction fuel with
                | zero =>
                  intro x4_77 σ_77 hx4_77 hσ_77 hFσ_77 hi77_0 hi77_1 hi77_2 hm77
                  exfalso; omega
                | succ fuel ih =>
                  intro x4_77 σ_77 hx4_77 hσ_77 hFσ_77 hi77_0 hi77_1 hi77_2 hm77
                  have ih77 := ih
                  show V 77 [some (ZR 1), some (ZL w), none, none, some (ZI x4_77), none] [] 284 σ_77
                  refine zr_iload (pc := 77) hV dX8_append_77 rfl ?_
                  refine zr_if_lt (pc := 79) hV 116 dX8_append_79 (by decide) (by omega) (fun c7 => ?_) (fun c7 => ?_)
                  · show V 116 [some (ZR 1), some (ZL w), none, none, some (ZI x4_77), none] [] 284 σ_77
                    refine zr_aload_n (pc := 116) hV dX8_append_116 rfl rfl ?_
                    refine zr_getI (pc := 117) hV 1 dX8_append_117 fX8_15 rfl rfl (zc_k1 zc_s1) (zc_pos zc_s1 rfl) ?_
                    have t8 := zc_g1_1 hσ_77 zc_s1
                    have t9 := zc_g1_1 hσ_77 zc_s1
                    exact zr_iret (pc := 120) hV dX8_append_120 rfl rfl ⟨_, rfl, (by omega), hσ_77, hFσ_77, trivial, (show zu_ty (σ 2) (σ_77 2) (σ 1 1) (σ_77 1 1) w n (σ_77 1 1) from ⟨fun h => absurd zok h, fun _ => ⟨fun h => absurd h (by omega), fun _ => ⟨by omega, by omega, fun j => by rw [hi77_1 j, show σ 1 1 + (n - 1 - x4_77) = σ 1 1 + n by omega]⟩⟩⟩)⟩
                  · show V 82 [some (ZR 1), some (ZL w), none, none, some (ZI x4_77), none] [] 284 σ_77
                    refine zr_aload_n (pc := 82) hV dX8_append_82 rfl rfl ?_
                    refine zr_getR (pc := 83) hV 0 2 dX8_append_83 fX8_11 rfl rfl (zc_k1 zc_s1) (zc_pos zc_s1 rfl) (zc_g1_0 hσ_77 zc_s1) (by decide) ?_
                    refine zr_aload_n (pc := 86) hV dX8_append_86 rfl rfl ?_
                    refine zr_dup (pc := 87) hV dX8_append_87 (fun _ => rfl) ?_
                    refine zr_getI (pc := 88) hV 1 dX8_append_88 fX8_15 rfl rfl (zc_k1 zc_s1) (zc_pos zc_s1 rfl) ?_
                    have t10 := zc_g1_1 hσ_77 zc_s1
                    refine zr_dup_x1 (pc := 91) hV dX8_append_91 (fun _ => rfl) (fun _ => rfl) ?_
                    refine zr_iconst (pc := 92) hV 1 dX8_append_92 rfl ?_
                    refine zr_iadd (pc := 93) hV dX8_append_93 ?_
                    refine zr_putI (pc := 94) hV 1 dX8_append_94 fX8_15 rfl rfl rfl (zc_k1 zc_s1) (zc_pos zc_s1 rfl) (fun σ94 eσ94 => ?_)
                    have hσ94 : zc_T σ94 := zc_u1_1 eσ94 hσ_77 zc_s1 (by omega)
                    have hFσ94 := zc_Fw eσ94 zc_s1 rfl hFσ_77
                    refine zr_lload_n (pc := 97) hV dX8_append_97 rfl rfl ?_
                    refine zr_bipush (pc := 98) hV 8 dX8_append_98 (by decide) ?_
                    refine zr_iload (pc := 100) hV dX8_append_100 rfl ?_
                    refine zr_imul (pc := 102) hV dX8_append_102 ?_
                    refine zr_lushr (pc := 103) hV dX8_append_103 ?_
                    have t11 := zq_lushr_in w (8 * x4_77)
                    refine zr_l2i (pc := 104) hV dX8_append_104 ?_
                    have t12 := zq_l2i_in (zq_lushr w (8 * x4_77))
                    refine zr_sipush (pc := 105) hV 255 dX8_append_105 (by decide) ?_
                    refine zr_iand (pc := 108) hV dX8_append_108 ?_
                    have t13 := zq_and_mask (zq_l2i (zq_lushr w (8 * x4_77))) 8 255 256 (by decide) (by decide) (by decide)
                    have zb2 := zu_by_c (w := w) (i := x4_77) (by omega) (by omega)
                    refine zr_iast (pc := 109) hV dX8_append_109 (zc_k2 zc_s2) (zc_pos zc_s2 rfl) rfl (by omega) (fun σ109 eσ109 => ?_)
                    have hσ109 : zc_T σ109 := zc_ua2 eσ109 hσ94 zc_s2 (by omega)
                    have hFσ109 := zc_Fa eσ109 zc_s2 rfl hFσ94
                    refine zr_iinc (pc := 110) hV [some (ZR 1), some (ZL w), none, none, some (ZI (x4_77 + (-1))), none] (x4_77 + (-1)) dX8_append_110 rfl rfl (by decide) rfl rfl ?_
                    refine zr_goto (pc := 113) hV 77 dX8_append_113 (by decide) ?_
                    have t14 := zc_g1_1 hσ109 zc_s1
                    have t15 : σ109 1 1 = σ94 1 1 := by rw [eσ109]; exact zq_up_ne (zc_dk zc_s1 zc_s2 rfl)
                    have t16 : σ94 1 1 = (σ_77 1 1) + 1 := by rw [eσ94]; exact zq_up_same _ _ _ _
                    exact ih77 (x4_77 + (-1)) σ109 (by omega) hσ109 hFσ109 (by omega) (fun j => if hc : j = σ_77 1 1 then (by rw [hc, eσ109, zq_up_same, if_pos (by omega), zb2, show n - 1 - (σ_77 1 1 - σ 1 1) = x4_77 by omega]) else (by rw [eσ109, zq_up_ne (by omega), eσ94, zq_up_ne (by omega), hi77_1 j]; exact if hd : σ 1 1 ≤ j ∧ j < σ 1 1 + (n - 1 - x4_77) then (by rw [if_pos hd, if_pos (by omega)]) else (by rw [if_neg hd, if_neg (by omega)]))) (by omega) (by omega)
              have t17 := zc_g1_1 hσ zc_s1
              refine zr_sub (pc := 77) hV [some (ZR 1), some (ZL w), none, none, some (ZI (n - 1)), none] (⟨rfl, rfl, rfl, trivial⟩) ?_
              exact L77 ((n - 1) - (-1) + 1 : Int).toNat (n - 1) σ (by omega) hσ hFσ (by omega) (fun j => by rw [if_neg (by omega)]) (by omega) (by omega)
            · show V 69 [some (ZR 1), some (ZL w), none, some (ZI n), some (ZI x4_16), none] [] 284 σ
              refine zr_bipush (pc := 69) hV (-3) dX8_append_69 (by decide) ?_
              have t18 := zc_g1_1 hσ zc_s1
              exact zr_iret (pc := 71) hV dX8_append_71 rfl rfl ⟨_, rfl, ⟨by decide, by decide⟩, hσ, hFσ, trivial, (show zu_ty (σ 2) (σ 2) (σ 1 1) (σ 1 1) w n ((-3) : Int) from ⟨fun h => absurd zok h, fun _ => ⟨fun _ => ⟨by omega, rfl, fun _ => rfl⟩, fun h => absurd h (by omega)⟩⟩)⟩
          · show V 22 [some (ZR 1), some (ZL w), none, some (ZI n), some (ZI x4_16), none] [] 284 σ
            refine zr_lload_n (pc := 22) hV dX8_append_22 rfl rfl ?_
            refine zr_bipush (pc := 23) hV 8 dX8_append_23 (by decide) ?_
            refine zr_iload (pc := 25) hV dX8_append_25 rfl ?_
            refine zr_imul (pc := 27) hV dX8_append_27 ?_
            refine zr_lushr (pc := 28) hV dX8_append_28 ?_
            have t19 := zq_lushr_in w (8 * x4_16)
            refine zr_l2i (pc := 29) hV dX8_append_29 ?_
            have t20 := zq_l2i_in (zq_lushr w (8 * x4_16))
            refine zr_sipush (pc := 30) hV 255 dX8_append_30 (by decide) ?_
            refine zr_iand (pc := 33) hV dX8_append_33 ?_
            have t21 := zq_and_mask (zq_l2i (zq_lushr w (8 * x4_16))) 8 255 256 (by decide) (by decide) (by decide)
            refine zr_istore (pc := 34) hV [some (ZR 1), some (ZL w), none, some (ZI n), some (ZI x4_16), some (ZI (zq_and (zq_l2i (zq_lushr w (8 * x4_16))) 255))] dX8_append_34 (by decide) rfl rfl ?_
            have zb := zu_by_c (w := w) (i := x4_16) (by omega) (by omega)
            refine zr_iload (pc := 36) hV dX8_append_36 rfl ?_
            refine zr_bipush (pc := 38) hV 32 dX8_append_38 (by decide) ?_
            refine zr_icmp_lt (pc := 40) hV 50 dX8_append_40 (by decide) (by omega) ⟨by decide, by decide⟩ (fun c22 => ?_) (fun c22 => ?_)
            · show V 50 [some (ZR 1), some (ZL w), none, some (ZI n), some (ZI x4_16), some (ZI (zq_and (zq_l2i (zq_lushr w (8 * x4_16))) 255))] [] 284 σ
              refine zr_iconst (pc := 50) hV (-1) dX8_append_50 rfl ?_
              have t23 := zc_g1_1 hσ zc_s1
              exact zr_iret (pc := 51) hV dX8_append_51 rfl rfl ⟨_, rfl, ⟨by decide, by decide⟩, hσ, hFσ, trivial, (show zu_ty (σ 2) (σ 2) (σ 1 1) (σ 1 1) w n ((-1) : Int) from ⟨fun _ => ⟨by omega, rfl, fun _ => rfl⟩, fun h => absurd (h.2.2 x4_16 (by omega) (by omega)) (by omega)⟩)⟩
            · show V 43 [some (ZR 1), some (ZL w), none, some (ZI n), some (ZI x4_16), some (ZI (zq_and (zq_l2i (zq_lushr w (8 * x4_16))) 255))] [] 284 σ
              refine zr_iload (pc := 43) hV dX8_append_43 rfl ?_
              refine zr_bipush (pc := 45) hV 126 dX8_append_45 (by decide) ?_
              refine zr_icmp_le (pc := 47) hV 52 dX8_append_47 (by decide) (by omega) ⟨by decide, by decide⟩ (fun c24 => ?_) (fun c24 => ?_)
              · show V 52 [some (ZR 1), some (ZL w), none, some (ZI n), some (ZI x4_16), some (ZI (zq_and (zq_l2i (zq_lushr w (8 * x4_16))) 255))] [] 284 σ
                refine zr_iinc (pc := 52) hV [some (ZR 1), some (ZL w), none, some (ZI n), some (ZI (x4_16 + 1)), some (ZI (zq_and (zq_l2i (zq_lushr w (8 * x4_16))) 255))] (x4_16 + 1) dX8_append_52 rfl rfl (by decide) rfl rfl ?_
                refine zr_goto (pc := 55) hV 16 dX8_append_55 (by decide) ?_
                refine zr_sub (pc := 16) hV [some (ZR 1), some (ZL w), none, some (ZI n), some (ZI (x4_16 + 1)), none] (⟨rfl, rfl, rfl, rfl, trivial⟩) ?_
                exact ih16 (x4_16 + 1) (by omega) (fun i h0 h1 => if hc : i = x4_16 then (by rw [hc]; omega) else hi16_0 i h0 (by omega)) (by omega)
              · show V 50 [some (ZR 1), some (ZL w), none, some (ZI n), some (ZI x4_16), some (ZI (zq_and (zq_l2i (zq_lushr w (8 * x4_16))) 255))] [] 284 σ
                refine zr_iconst (pc := 50) hV (-1) dX8_append_50 rfl ?_
                have t25 := zc_g1_1 hσ zc_s1
                exact zr_iret (pc := 51) hV dX8_append_51 rfl rfl ⟨_, rfl, ⟨by decide, by decide⟩, hσ, hFσ, trivial, (show zu_ty (σ 2) (σ 2) (σ 1 1) (σ 1 1) w n ((-1) : Int) from ⟨fun _ => ⟨by omega, rfl, fun _ => rfl⟩, fun h => absurd (h.2.2 x4_16 (by omega) (by omega)) (by omega)⟩)⟩
      exact L16 (8 - (0 : Int) + 1 : Int).toNat 0 (by omega) (fun i h0 h1 => absurd h1 (by omega)) (by omega)
    · show V 11 [some (ZR 1), some (ZL w), none, some (ZI n), none, none] [] 284 σ
      refine zr_iconst (pc := 11) hV (-1) dX8_append_11 rfl ?_
      have t26 := zc_g1_1 hσ zc_s1
      exact zr_iret (pc := 12) hV dX8_append_12 rfl rfl ⟨_, rfl, ⟨by decide, by decide⟩, hσ, hFσ, trivial, (show zu_ty (σ 2) (σ 2) (σ 1 1) (σ 1 1) w n ((-1) : Int) from ⟨fun _ => ⟨by omega, rfl, fun _ => rfl⟩, fun h => absurd (And.intro h.1 h.2.1) (by omega)⟩)⟩
set_option maxHeartbeats 800000 in
theorem c_X11_type_2 {σ : zq_S} (hσ : zc_T σ) (w : Int) (n : Int) (q0 : zq_inL w) (q1 : zq_in n) (Uσ : zc_U σ) : zq_C zc_w yX11_type cX11_type 4 (some .int) 1 25 284 284 [ZR 0, ZL w, ZI n] σ (zq_pi (fun r τ => zc_T τ ∧ zc_Fr [(1, 1), (2, -1)] σ τ ∧ (True) ∧ zq_hid (zu_ty (σ 2) (τ 2) (σ 1 1) (τ 1 1) w n r) ∧ zc_U τ)) := by
  refine zq_C_of (by decide) (Nat.le_refl _) (Nat.le_of_ble_eq_true rfl) [some (ZR 0), some (ZL w), none, some (ZI n)] rfl (fun V hV => ?_)
  have hFσ := zc_Fr_rf [(1, 1), (2, -1)] σ
  show V 0 [some (ZR 0), some (ZL w), none, some (ZI n)] [] 284 σ
  refine zr_aload_n (pc := 0) hV dX11_type_0 rfl rfl ?_
  refine zr_getR (pc := 1) hV 0 1 dX11_type_1 fX11_10 rfl rfl (zc_k0 zc_s0) (zc_pos zc_s0 rfl) (zc_g0_0 hσ zc_s0) (by decide) ?_
  refine zr_lload_n (pc := 4) hV dX11_type_4 rfl rfl ?_
  refine zr_iload_n (pc := 5) hV dX11_type_5 rfl rfl ?_
  refine zr_callVi (pc := 6) hV [ZL w, ZI n] (st := []) (c_X8_append_2 (σ := σ) hσ w n (by omega) (by omega)) dX11_type_6 mX11_93 (zc_k1 zc_s1) (zc_pos zc_s1 rfl) (by decide) (Nat.le_of_ble_eq_true rfl) (Nat.le_refl _) (fun r6 σ6 hr6 pσ6 => ?_)
  obtain ⟨hσ6, hfσ6, pσ6, wσ6⟩ := pσ6
  have hFσ6 := zc_Fc hfσ6 rfl hFσ
  have Uσ6 : zc_U σ6 := zc_U_fr hfσ6 rfl hσ Uσ
  have t1 := zc_g1_1 hσ zc_s1
  have t2 := zc_g1_1 hσ6 zc_s1
  exact zr_iret (pc := 9) hV dX11_type_9 rfl rfl ⟨_, rfl, (by omega), hσ6, hFσ6, trivial, (show zu_ty (σ 2) (σ6 2) (σ 1 1) (σ6 1 1) w n r6 from wσ6), Uσ6⟩
set_option maxHeartbeats 800000 in
theorem c_X10_clear_3 {σ : zq_S} (hσ : zc_T σ)   : zq_C zc_w yX10_clear cX10_clear 1 (none) 1 23 284 284 [ZR 141] σ (zq_pv (fun τ => zc_T τ ∧ zc_Fr [(141, 3), (141, 4), (142, -1), (143, -1)] σ τ ∧ (τ 141 3 = 0 ∧ τ 141 4 = 0) ∧ zq_hid ((∀ i, 0 ≤ i → i < 8 → τ 142 i = 0) ∧ (∀ i, 0 ≤ i → i < 256 → τ 143 i = 0)))) := by
  refine zq_C_of (by decide) (Nat.le_refl _) (Nat.le_of_ble_eq_true rfl) [some (ZR 141)] rfl (fun V hV => ?_)
  have hFσ := zc_Fr_rf [(141, 3), (141, 4), (142, -1), (143, -1)] σ
  show V 0 [some (ZR 141)] [] 284 σ
  refine zr_aload_n (pc := 0) hV dX10_clear_0 rfl rfl ?_
  refine zr_getR (pc := 1) hV 1 142 dX10_clear_1 fX10_11 rfl rfl (zc_k141 zc_s141) (zc_pos zc_s141 rfl) (zc_g141_1 hσ zc_s141) (by decide) ?_
  refine zr_iconst (pc := 4) hV 0 dX10_clear_4 rfl ?_
  refine zr_callSv (pc := 5) hV [ZR 142, ZI 0] (st := []) (c_fill (σ := σ) hσ 142 0 zc_s142 rfl rfl ⟨by decide, by decide⟩ (fun _ => ⟨by omega, by omega⟩)) dX10_clear_5 mX10_29 (by decide) (Nat.le_of_ble_eq_true rfl) (Nat.le_refl _) (fun σ5 pσ5 => ?_)
  obtain ⟨hσ5, hfσ5, pσ5⟩ := pσ5
  have hFσ5 := zc_Fc hfσ5 rfl hFσ
  refine zr_aload_n (pc := 8) hV dX10_clear_8 rfl rfl ?_
  refine zr_getR (pc := 9) hV 2 143 dX10_clear_9 fX10_15 rfl rfl (zc_k141 zc_s141) (zc_pos zc_s141 rfl) (zc_g141_2 hσ5 zc_s141) (by decide) ?_
  refine zr_iconst (pc := 12) hV 0 dX10_clear_12 rfl ?_
  refine zr_callSv (pc := 13) hV [ZR 143, ZI 0] (st := []) (c_fill (σ := σ5) hσ5 143 0 zc_s143 rfl rfl ⟨by decide, by decide⟩ (fun _ => ⟨by omega, by omega⟩)) dX10_clear_13 mX10_29 (by decide) (Nat.le_of_ble_eq_true rfl) (Nat.le_refl _) (fun σ13 pσ13 => ?_)
  obtain ⟨hσ13, hfσ13, pσ13⟩ := pσ13
  have hFσ13 := zc_Fc hfσ13 rfl hFσ5
  refine zr_aload_n (pc := 16) hV dX10_clear_16 rfl rfl ?_
  refine zr_iconst (pc := 17) hV 0 dX10_clear_17 rfl ?_
  refine zr_putI (pc := 18) hV 3 dX10_clear_18 fX10_35 rfl rfl rfl (zc_k141 zc_s141) (zc_pos zc_s141 rfl) (fun σ18 eσ18 => ?_)
  have hσ18 : zc_T σ18 := zc_u141_3 eσ18 hσ13 zc_s141 (by omega)
  have hFσ18 := zc_Fw eσ18 zc_s141 rfl hFσ13
  refine zr_aload_n (pc := 21) hV dX10_clear_21 rfl rfl ?_
  refine zr_iconst (pc := 22) hV 0 dX10_clear_22 rfl ?_
  refine zr_putI (pc := 23) hV 4 dX10_clear_23 fX10_39 rfl rfl rfl (zc_k141 zc_s141) (zc_pos zc_s141 rfl) (fun σ23 eσ23 => ?_)
  have hσ23 : zc_T σ23 := zc_u141_4 eσ23 hσ18 zc_s141 (by omega)
  have hFσ23 := zc_Fw eσ23 zc_s141 rfl hFσ18
  have t1 := zc_g141_3 hσ23 zc_s141
  have t2 : σ23 141 3 = σ18 141 3 := by rw [eσ23]; exact zq_up_ne (by omega)
  have t3 : σ18 141 3 = 0 := by rw [eσ18]; exact zq_up_same _ _ _ _
  have t4 := zc_g141_4 hσ23 zc_s141
  have t5 : σ23 141 4 = 0 := by rw [eσ23]; exact zq_up_same _ _ _ _
  exact zr_vret (pc := 26) hV dX10_clear_26 rfl rfl ⟨rfl, hσ23, hFσ23, (by omega), (show (∀ i, 0 ≤ i → i < 8 → σ23 142 i = 0) ∧ (∀ i, 0 ≤ i → i < 256 → σ23 143 i = 0) from ⟨fun i h0 h1 => by rw [eσ23, zq_up_ne (by omega), eσ18, zq_up_ne (by omega), hfσ13 142 _ (zc_out_ar zc_s142 rfl)]; exact pσ5.1 i h0 (by omega), fun i h0 h1 => by rw [eσ23, zq_up_ne (by omega), eσ18, zq_up_ne (by omega)]; exact pσ13.1 i h0 (by omega)⟩)⟩
set_option maxHeartbeats 800000 in
theorem c_X6_forgetLatest_3 {σ : zq_S} (hσ : zc_T σ)   : zq_C zc_w yX6_forgetLatest cX6_forgetLatest 1 (none) 0 0 284 284 [ZR 140] σ (zq_pv (fun τ => zc_T τ ∧ zc_Fr [(140, 13), (140, 14)] σ τ ∧ (τ 140 13 = 0 ∧ τ 140 14 = 0))) := by
  refine zq_C_of (by decide) (Nat.le_refl _) (Nat.le_of_ble_eq_true rfl) [some (ZR 140)] rfl (fun V hV => ?_)
  have hFσ := zc_Fr_rf [(140, 13), (140, 14)] σ
  show V 0 [some (ZR 140)] [] 284 σ
  refine zr_aload_n (pc := 0) hV dX6_forgetLatest_0 rfl rfl ?_
  refine zr_iconst (pc := 1) hV 0 dX6_forgetLatest_1 rfl ?_
  refine zr_putI (pc := 2) hV 13 dX6_forgetLatest_2 fX6_71 rfl rfl rfl (zc_k140 zc_s140) (zc_pos zc_s140 rfl) (fun σ2 eσ2 => ?_)
  have hσ2 : zc_T σ2 := zc_u140_13 eσ2 hσ zc_s140 (by omega)
  have hFσ2 := zc_Fw eσ2 zc_s140 rfl hFσ
  refine zr_aload_n (pc := 5) hV dX6_forgetLatest_5 rfl rfl ?_
  refine zr_iconst (pc := 6) hV 0 dX6_forgetLatest_6 rfl ?_
  refine zr_putI (pc := 7) hV 14 dX6_forgetLatest_7 fX6_74 rfl rfl rfl (zc_k140 zc_s140) (zc_pos zc_s140 rfl) (fun σ7 eσ7 => ?_)
  have hσ7 : zc_T σ7 := zc_u140_14 eσ7 hσ2 zc_s140 (by omega)
  have hFσ7 := zc_Fw eσ7 zc_s140 rfl hFσ2
  have t1 := zc_g140_13 hσ7 zc_s140
  have t2 : σ7 140 13 = σ2 140 13 := by rw [eσ7]; exact zq_up_ne (by omega)
  have t3 : σ2 140 13 = 0 := by rw [eσ2]; exact zq_up_same _ _ _ _
  have t4 := zc_g140_14 hσ7 zc_s140
  have t5 : σ7 140 14 = 0 := by rw [eσ7]; exact zq_up_same _ _ _ _
  exact zr_vret (pc := 10) hV dX6_forgetLatest_10 rfl rfl ⟨rfl, hσ7, hFσ7, (by omega)⟩
set_option maxHeartbeats 800000 in
theorem c_X6_forgetPast_3 {σ : zq_S} (hσ : zc_T σ)   : zq_C zc_w yX6_forgetPast cX6_forgetPast 1 (none) 1 20 284 284 [ZR 140] σ (zq_pv (fun τ => zc_T τ ∧ zc_Fr [(140, 5), (140, 13), (140, 14)] σ τ ∧ (τ 140 5 = 0 ∧ τ 140 13 = 0 ∧ τ 140 14 = 0))) := by
  refine zq_C_of (by decide) (Nat.le_refl _) (Nat.le_of_ble_eq_true rfl) [some (ZR 140)] rfl (fun V hV => ?_)
  have hFσ := zc_Fr_rf [(140, 5), (140, 13), (140, 14)] σ
  show V 0 [some (ZR 140)] [] 284 σ
  refine zr_aload_n (pc := 0) hV dX6_forgetPast_0 rfl rfl ?_
  refine zr_iconst (pc := 1) hV 0 dX6_forgetPast_1 rfl ?_
  refine zr_putI (pc := 2) hV 5 dX6_forgetPast_2 fX6_65 rfl rfl rfl (zc_k140 zc_s140) (zc_pos zc_s140 rfl) (fun σ2 eσ2 => ?_)
  have hσ2 : zc_T σ2 := zc_u140_5 eσ2 hσ zc_s140 (by omega)
  have hFσ2 := zc_Fw eσ2 zc_s140 rfl hFσ
  refine zr_aload_n (pc := 5) hV dX6_forgetPast_5 rfl rfl ?_
  refine zr_callVv (pc := 6) hV [] (st := []) (c_X6_forgetLatest_3 (σ := σ2) hσ2) dX6_forgetPast_6 mX6_68 (zc_k140 zc_s140) (zc_pos zc_s140 rfl) (by decide) (Nat.le_of_ble_eq_true rfl) (Nat.le_refl _) (fun σ6 pσ6 => ?_)
  obtain ⟨hσ6, hfσ6, pσ6⟩ := pσ6
  have hFσ6 := zc_Fc hfσ6 rfl hFσ2
  have t1 := zc_g140_13 hσ6 zc_s140
  have t2 := zc_g140_14 hσ6 zc_s140
  have t3 := zc_g140_13 hσ6 zc_s140
  have t4 := zc_g140_14 hσ6 zc_s140
  have t5 := zc_g140_5 hσ6 zc_s140
  have t6 : σ6 140 5 = σ2 140 5 := hfσ6 _ _ (zc_out_at zc_s140 rfl)
  have t7 : σ2 140 5 = 0 := by rw [eσ2]; exact zq_up_same _ _ _ _
  exact zr_vret (pc := 9) hV dX6_forgetPast_9 rfl rfl ⟨rfl, hσ6, hFσ6, (by omega)⟩
set_option maxHeartbeats 800000 in
theorem c_X6_clear_3 {σ : zq_S} (hσ : zc_T σ)   : zq_C zc_w yX6_clear cX6_clear 2 (none) 2 43 284 284 [ZR 140] σ (zq_pv (fun τ => zc_T τ ∧ zc_Fr [(140, 5), (140, 8), (140, 9), (140, 10), (140, 11), (140, 13), (140, 14), (141, 3), (141, 4), (142, -1), (143, -1), (254, -1)] σ τ ∧ (τ 141 3 = 0 ∧ τ 141 4 = 0 ∧ τ 140 5 = 0 ∧ τ 140 8 = 0 ∧ τ 140 9 = 0 ∧ τ 140 10 = 0 ∧ τ 140 11 = 0 ∧ τ 140 13 = 0 ∧ τ 140 14 = 0) ∧ zq_hid ((∀ i, 0 ≤ i → i < 8 → τ 142 i = 0) ∧ (∀ i, 0 ≤ i → i < 256 → τ 143 i = 0) ∧ (∀ i, 0 ≤ i → i < 64 → τ 254 i = (i + 1) % 64)))) := by
  refine zq_C_of (by decide) (Nat.le_refl _) (Nat.le_of_ble_eq_true rfl) [some (ZR 140), none] rfl (fun V hV => ?_)
  have hFσ := zc_Fr_rf [(140, 5), (140, 8), (140, 9), (140, 10), (140, 11), (140, 13), (140, 14), (141, 3), (141, 4), (142, -1), (143, -1), (254, -1)] σ
  show V 0 [some (ZR 140), none] [] 284 σ
  refine zr_aload_n (pc := 0) hV dX6_clear_0 rfl rfl ?_
  refine zr_getR (pc := 1) hV 2 141 dX6_clear_1 fX6_16 rfl rfl (zc_k140 zc_s140) (zc_pos zc_s140 rfl) (zc_g140_2 hσ zc_s140) (by decide) ?_
  refine zr_callVv (pc := 4) hV [] (st := []) (c_X10_clear_3 (σ := σ) hσ) dX6_clear_4 mX6_49 (zc_k141 zc_s141) (zc_pos zc_s141 rfl) (by decide) (Nat.le_of_ble_eq_true rfl) (Nat.le_refl _) (fun σ4 pσ4 => ?_)
  obtain ⟨hσ4, hfσ4, pσ4, wσ4⟩ := pσ4
  have hFσ4 := zc_Fc hfσ4 rfl hFσ
  have t1 := zc_g141_3 hσ4 zc_s141
  have t2 := zc_g141_4 hσ4 zc_s141
  refine zr_iconst (pc := 7) hV 0 dX6_clear_7 rfl ?_
  refine zr_istore_n (pc := 8) hV [some (ZR 140), some (ZI 0)] dX6_clear_8 rfl (by decide) rfl rfl ?_
  have L9 : ∀ (fuel : Nat) (x1_9 : Int) (σ_9 : zq_S), (0 ≤ x1_9 ∧ x1_9 ≤ 64) → (zc_T σ_9) → (zc_Fr [(140, 5), (140, 8), (140, 9), (140, 10), (140, 11), (140, 13), (140, 14), (141, 3), (141, 4), (142, -1), (143, -1), (254, -1)] σ σ_9) → (zq_hid (∀ i, 0 ≤ i → i < x1_9 → σ_9 254 i = (i + 1) % 64)) → (zq_hid (∀ i, 0 ≤ i → i < 8 → σ_9 142 i = 0)) → (zq_hid (∀ i, 0 ≤ i → i < 256 → σ_9 143 i = 0)) → (σ_9 141 3 = 0) → (σ_9 141 4 = 0) → 64 - x1_9 < (fuel : Int) → V 9 [some (ZR 140), some (ZI x1_9)] [] 284 σ_9 := by
    intro fuel
    induction fuel with
    | zero =>
      intro x1_9 σ_9 hx1_9 hσ_9 hFσ_9 hi9_0 hi9_1 hi9_2 hi9_3 hi9_4 hm9
      exfalso; omega
    | succ fuel ih =>
      intro x1_9 σ_9 hx1_9 hσ_9 hFσ_9 hi9_0 hi9_1 hi9_2 hi9_3 hi9_4 hm9
      have ih9 := ih
      show V 9 [some (ZR 140), some (ZI x1_9)] [] 284 σ_9
      refine zr_iload_n (pc := 9) hV dX6_clear_9 rfl rfl ?_
      refine zr_bipush (pc := 10) hV 64 dX6_clear_10 (by decide) ?_
      refine zr_icmp_ge (pc := 12) hV 33 dX6_clear_12 (by decide) (by omega) ⟨by decide, by decide⟩ (fun c3 => ?_) (fun c3 => ?_)
      · show V 33 [some (ZR 140), some (ZI x1_9)] [] 284 σ_9
        refine zr_aload_n (pc := 33) hV dX6_clear_33 rfl rfl ?_
        refine zr_iconst (pc := 34) hV 0 dX6_clear_34 rfl ?_
        refine zr_putI (pc := 35) hV 8 dX6_clear_35 fX6_50 rfl rfl rfl (zc_k140 zc_s140) (zc_pos zc_s140 rfl) (fun σ35 eσ35 => ?_)
        have hσ35 : zc_T σ35 := zc_u140_8 eσ35 hσ_9 zc_s140 (by omega)
        have hFσ35 := zc_Fw eσ35 zc_s140 rfl hFσ_9
        refine zr_aload_n (pc := 38) hV dX6_clear_38 rfl rfl ?_
        refine zr_iconst (pc := 39) hV 0 dX6_clear_39 rfl ?_
        refine zr_putI (pc := 40) hV 9 dX6_clear_40 fX6_53 rfl rfl rfl (zc_k140 zc_s140) (zc_pos zc_s140 rfl) (fun σ40 eσ40 => ?_)
        have hσ40 : zc_T σ40 := zc_u140_9 eσ40 hσ35 zc_s140 (by omega)
        have hFσ40 := zc_Fw eσ40 zc_s140 rfl hFσ35
        refine zr_aload_n (pc := 43) hV dX6_clear_43 rfl rfl ?_
        refine zr_iconst (pc := 44) hV 0 dX6_clear_44 rfl ?_
        refine zr_putI (pc := 45) hV 10 dX6_clear_45 fX6_56 rfl rfl rfl (zc_k140 zc_s140) (zc_pos zc_s140 rfl) (fun σ45 eσ45 => ?_)
        have hσ45 : zc_T σ45 := zc_u140_10 eσ45 hσ40 zc_s140 (by omega)
        have hFσ45 := zc_Fw eσ45 zc_s140 rfl hFσ40
        refine zr_aload_n (pc := 48) hV dX6_clear_48 rfl rfl ?_
        refine zr_iconst (pc := 49) hV 0 dX6_clear_49 rfl ?_
        refine zr_putI (pc := 50) hV 11 dX6_clear_50 fX6_59 rfl rfl rfl (zc_k140 zc_s140) (zc_pos zc_s140 rfl) (fun σ50 eσ50 => ?_)
        have hσ50 : zc_T σ50 := zc_u140_11 eσ50 hσ45 zc_s140 (by omega)
        have hFσ50 := zc_Fw eσ50 zc_s140 rfl hFσ45
        refine zr_aload_n (pc := 53) hV dX6_clear_53 rfl rfl ?_
        refine zr_callVv (pc := 54) hV [] (st := []) (c_X6_forgetPast_3 (σ := σ50) hσ50) dX6_clear_54 mX6_62 (zc_k140 zc_s140) (zc_pos zc_s140 rfl) (by decide) (Nat.le_of_ble_eq_true rfl) (Nat.le_refl _) (fun σ54 pσ54 => ?_)
        obtain ⟨hσ54, hfσ54, pσ54⟩ := pσ54
        have hFσ54 := zc_Fc hfσ54 rfl hFσ50
        have t4 := zc_g140_13 hσ54 zc_s140
        have t5 := zc_g140_14 hσ54 zc_s140
        have t6 := zc_g140_5 hσ54 zc_s140
        have t7 := zc_g140_10 hσ54 zc_s140
        have t8 : σ54 140 10 = σ50 140 10 := hfσ54 _ _ (zc_out_at zc_s140 rfl)
        have t9 : σ50 140 10 = σ45 140 10 := by rw [eσ50]; exact zq_up_ne (by omega)
        have t10 : σ45 140 10 = 0 := by rw [eσ45]; exact zq_up_same _ _ _ _
        have t11 := zc_g140_11 hσ54 zc_s140
        have t12 : σ54 140 11 = σ50 140 11 := hfσ54 _ _ (zc_out_at zc_s140 rfl)
        have t13 : σ50 140 11 = 0 := by rw [eσ50]; exact zq_up_same _ _ _ _
        have t14 := zc_g140_13 hσ54 zc_s140
        have t15 := zc_g140_14 hσ54 zc_s140
        have t16 := zc_g140_5 hσ54 zc_s140
        have t17 := zc_g140_8 hσ54 zc_s140
        have t18 : σ54 140 8 = σ50 140 8 := hfσ54 _ _ (zc_out_at zc_s140 rfl)
        have t19 : σ50 140 8 = σ45 140 8 := by rw [eσ50]; exact zq_up_ne (by omega)
        have t20 : σ45 140 8 = σ40 140 8 := by rw [eσ45]; exact zq_up_ne (by omega)
        have t21 : σ40 140 8 = σ35 140 8 := by rw [eσ40]; exact zq_up_ne (by omega)
        have t22 : σ35 140 8 = 0 := by rw [eσ35]; exact zq_up_same _ _ _ _
        have t23 := zc_g140_9 hσ54 zc_s140
        have t24 : σ54 140 9 = σ50 140 9 := hfσ54 _ _ (zc_out_at zc_s140 rfl)
        have t25 : σ50 140 9 = σ45 140 9 := by rw [eσ50]; exact zq_up_ne (by omega)
        have t26 : σ45 140 9 = σ40 140 9 := by rw [eσ45]; exact zq_up_ne (by omega)
        have t27 : σ40 140 9 = 0 := by rw [eσ40]; exact zq_up_same _ _ _ _
        have t28 := zc_g141_3 hσ54 zc_s141
        have t29 : σ54 141 3 = σ50 141 3 := hfσ54 _ _ (zc_out_at zc_s141 rfl)
        have t30 : σ50 141 3 = σ45 141 3 := by rw [eσ50]; exact zq_up_ne (zc_dk zc_s141 zc_s140 rfl)
        have t31 : σ45 141 3 = σ40 141 3 := by rw [eσ45]; exact zq_up_ne (zc_dk zc_s141 zc_s140 rfl)
        have t32 : σ40 141 3 = σ35 141 3 := by rw [eσ40]; exact zq_up_ne (zc_dk zc_s141 zc_s140 rfl)
        have t33 : σ35 141 3 = σ_9 141 3 := by rw [eσ35]; exact zq_up_ne (zc_dk zc_s141 zc_s140 rfl)
        have t34 := zc_g141_4 hσ54 zc_s141
        have t35 : σ54 141 4 = σ50 141 4 := hfσ54 _ _ (zc_out_at zc_s141 rfl)
        have t36 : σ50 141 4 = σ45 141 4 := by rw [eσ50]; exact zq_up_ne (zc_dk zc_s141 zc_s140 rfl)
        have t37 : σ45 141 4 = σ40 141 4 := by rw [eσ45]; exact zq_up_ne (zc_dk zc_s141 zc_s140 rfl)
        have t38 : σ40 141 4 = σ35 141 4 := by rw [eσ40]; exact zq_up_ne (zc_dk zc_s141 zc_s140 rfl)
        have t39 : σ35 141 4 = σ_9 141 4 := by rw [eσ35]; exact zq_up_ne (zc_dk zc_s141 zc_s140 rfl)
        exact zr_vret (pc := 57) hV dX6_clear_57 rfl rfl ⟨rfl, hσ54, hFσ54, (by omega), (show (∀ i, 0 ≤ i → i < 8 → σ54 142 i = 0) ∧ (∀ i, 0 ≤ i → i < 256 → σ54 143 i = 0) ∧ (∀ i, 0 ≤ i → i < 64 → σ54 254 i = (i + 1) % 64) from ⟨fun i h0 h1 => by rw [hfσ54 142 _ (zc_out_ar zc_s142 rfl), eσ50, zq_up_ne (by omega), eσ45, zq_up_ne (by omega), eσ40, zq_up_ne (by omega), eσ35, zq_up_ne (by omega)]; exact hi9_1 i h0 h1, fun i h0 h1 => by rw [hfσ54 143 _ (zc_out_ar zc_s143 rfl), eσ50, zq_up_ne (by omega), eσ45, zq_up_ne (by omega), eσ40, zq_up_ne (by omega), eσ35, zq_up_ne (by omega)]; exact hi9_2 i h0 h1, fun i h0 h1 => by rw [hfσ54 254 _ (zc_out_ar zc_s254 rfl), eσ50, zq_up_ne (by omega), eσ45, zq_up_ne (by omega), eσ40, zq_up_ne (by omega), eσ35, zq_up_ne (by omega)]; exact hi9_0 i h0 (by omega)⟩)⟩
      · show V 15 [some (ZR 140), some (ZI x1_9)] [] 284 σ_9
        refine zr_aload_n (pc := 15) hV dX6_clear_15 rfl rfl ?_
        refine zr_getR (pc := 16) hV 7 254 dX6_clear_16 fX6_28 rfl rfl (zc_k140 zc_s140) (zc_pos zc_s140 rfl) (zc_g140_7 hσ_9 zc_s140) (by decide) ?_
        refine zr_iload_n (pc := 19) hV dX6_clear_19 rfl rfl ?_
        refine zr_iload_n (pc := 20) hV dX6_clear_20 rfl rfl ?_
        refine zr_iconst (pc := 21) hV 1 dX6_clear_21 rfl ?_
        refine zr_iadd (pc := 22) hV dX6_clear_22 ?_
        refine zr_bipush (pc := 23) hV 63 dX6_clear_23 (by decide) ?_
        refine zr_iand (pc := 25) hV dX6_clear_25 ?_
        have t40 := zq_and_mask (x1_9 + 1) 6 63 64 (by decide) (by decide) (by decide)
        refine zr_iast (pc := 26) hV dX6_clear_26 (zc_k254 zc_s254) (zc_pos zc_s254 rfl) rfl (by omega) (fun σ26 eσ26 => ?_)
        have hσ26 : zc_T σ26 := zc_ua254 eσ26 hσ_9 zc_s254 (by omega)
        have hFσ26 := zc_Fa eσ26 zc_s254 rfl hFσ_9
        refine zr_iinc (pc := 27) hV [some (ZR 140), some (ZI (x1_9 + 1))] (x1_9 + 1) dX6_clear_27 rfl rfl (by decide) rfl rfl ?_
        refine zr_goto (pc := 30) hV 9 dX6_clear_30 (by decide) ?_
        have t41 := zc_g141_3 hσ26 zc_s141
        have t42 : σ26 141 3 = σ_9 141 3 := by rw [eσ26]; exact zq_up_ne (zc_dk zc_s141 zc_s254 rfl)
        have t43 := zc_g141_4 hσ26 zc_s141
        have t44 : σ26 141 4 = σ_9 141 4 := by rw [eσ26]; exact zq_up_ne (zc_dk zc_s141 zc_s254 rfl)
        exact ih9 (x1_9 + 1) σ26 (by omega) hσ26 hFσ26 (fun i h0 h1 => if hc : i = x1_9 then (by rw [hc, eσ26, zq_up_same]; omega) else (by rw [eσ26, zq_up_ne (by omega)]; exact hi9_0 i h0 (by omega))) (fun i h0 h1 => by rw [eσ26, zq_up_ne (by omega)]; exact hi9_1 i h0 h1) (fun i h0 h1 => by rw [eσ26, zq_up_ne (by omega)]; exact hi9_2 i h0 h1) (by omega) (by omega) (by omega)
  have t45 := zc_g141_3 hσ4 zc_s141
  have t46 := zc_g141_4 hσ4 zc_s141
  exact L9 (64 - (0 : Int) + 1 : Int).toNat 0 σ4 (by omega) hσ4 hFσ4 (fun i h0 h1 => absurd h1 (by omega)) wσ4.1 wσ4.2 (by omega) (by omega) (by omega)
set_option maxHeartbeats 800000 in
theorem c_X6_startAnew_3 {σ : zq_S} (hσ : zc_T σ) (wordMask : Int) (q0 : 0 ≤ wordMask ∧ wordMask ≤ 255) : zq_C zc_w yX6_startAnew cX6_startAnew 2 (none) 3 64 284 284 [ZR 140, ZI wordMask] σ (zq_pv (fun τ => zc_T τ ∧ zc_Fr [(140, 5), (140, 8), (140, 9), (140, 10), (140, 11), (140, 12), (140, 13), (140, 14), (141, 0), (141, 3), (141, 4), (142, -1), (143, -1), (254, -1)] σ τ ∧ (τ 141 0 = wordMask ∧ τ 140 12 = 2 ∧ τ 141 3 = 0 ∧ τ 141 4 = 0 ∧ τ 140 5 = 0 ∧ τ 140 8 = 0 ∧ τ 140 9 = 0 ∧ τ 140 10 = 0 ∧ τ 140 11 = 0 ∧ τ 140 13 = 0 ∧ τ 140 14 = 0) ∧ zq_hid ((∀ i, 0 ≤ i → i < 8 → τ 142 i = 0) ∧ (∀ i, 0 ≤ i → i < 256 → τ 143 i = 0) ∧ (∀ i, 0 ≤ i → i < 64 → τ 254 i = (i + 1) % 64)))) := by
  refine zq_C_of (by decide) (Nat.le_refl _) (Nat.le_of_ble_eq_true rfl) [some (ZR 140), some (ZI wordMask)] rfl (fun V hV => ?_)
  have hFσ := zc_Fr_rf [(140, 5), (140, 8), (140, 9), (140, 10), (140, 11), (140, 12), (140, 13), (140, 14), (141, 0), (141, 3), (141, 4), (142, -1), (143, -1), (254, -1)] σ
  show V 0 [some (ZR 140), some (ZI wordMask)] [] 284 σ
  refine zr_aload_n (pc := 0) hV dX6_startAnew_0 rfl rfl ?_
  refine zr_getR (pc := 1) hV 2 141 dX6_startAnew_1 fX6_16 rfl rfl (zc_k140 zc_s140) (zc_pos zc_s140 rfl) (zc_g140_2 hσ zc_s140) (by decide) ?_
  refine zr_iload_n (pc := 4) hV dX6_startAnew_4 rfl rfl ?_
  refine zr_putI (pc := 5) hV 0 dX6_startAnew_5 fX6_39 rfl rfl rfl (zc_k141 zc_s141) (zc_pos zc_s141 rfl) (fun σ5 eσ5 => ?_)
  have hσ5 : zc_T σ5 := zc_u141_0 eσ5 hσ zc_s141 (by omega)
  have hFσ5 := zc_Fw eσ5 zc_s141 rfl hFσ
  refine zr_aload_n (pc := 8) hV dX6_startAnew_8 rfl rfl ?_
  refine zr_iconst (pc := 9) hV 2 dX6_startAnew_9 rfl ?_
  refine zr_putI (pc := 10) hV 12 dX6_startAnew_10 fX6_43 rfl rfl rfl (zc_k140 zc_s140) (zc_pos zc_s140 rfl) (fun σ10 eσ10 => ?_)
  have hσ10 : zc_T σ10 := zc_u140_12 eσ10 hσ5 zc_s140 (by omega)
  have hFσ10 := zc_Fw eσ10 zc_s140 rfl hFσ5
  refine zr_aload_n (pc := 13) hV dX6_startAnew_13 rfl rfl ?_
  refine zr_callVv (pc := 14) hV [] (st := []) (c_X6_clear_3 (σ := σ10) hσ10) dX6_startAnew_14 mX6_46 (zc_k140 zc_s140) (zc_pos zc_s140 rfl) (by decide) (Nat.le_of_ble_eq_true rfl) (Nat.le_refl _) (fun σ14 pσ14 => ?_)
  obtain ⟨hσ14, hfσ14, pσ14, wσ14⟩ := pσ14
  have hFσ14 := zc_Fc hfσ14 rfl hFσ10
  have t1 := zc_g140_10 hσ14 zc_s140
  have t2 := zc_g140_11 hσ14 zc_s140
  have t3 := zc_g140_13 hσ14 zc_s140
  have t4 := zc_g140_14 hσ14 zc_s140
  have t5 := zc_g140_5 hσ14 zc_s140
  have t6 := zc_g140_8 hσ14 zc_s140
  have t7 := zc_g140_9 hσ14 zc_s140
  have t8 := zc_g141_3 hσ14 zc_s141
  have t9 := zc_g141_4 hσ14 zc_s141
  have t10 := zc_g140_10 hσ14 zc_s140
  have t11 := zc_g140_11 hσ14 zc_s140
  have t12 := zc_g140_12 hσ14 zc_s140
  have t13 : σ14 140 12 = σ10 140 12 := hfσ14 _ _ (zc_out_at zc_s140 rfl)
  have t14 : σ10 140 12 = 2 := by rw [eσ10]; exact zq_up_same _ _ _ _
  have t15 := zc_g140_13 hσ14 zc_s140
  have t16 := zc_g140_14 hσ14 zc_s140
  have t17 := zc_g140_5 hσ14 zc_s140
  have t18 := zc_g140_8 hσ14 zc_s140
  have t19 := zc_g140_9 hσ14 zc_s140
  have t20 := zc_g141_0 hσ14 zc_s141
  have t21 : σ14 141 0 = σ10 141 0 := hfσ14 _ _ (zc_out_at zc_s141 rfl)
  have t22 : σ10 141 0 = σ5 141 0 := by rw [eσ10]; exact zq_up_ne (zc_dk zc_s141 zc_s140 rfl)
  have t23 : σ5 141 0 = wordMask := by rw [eσ5]; exact zq_up_same _ _ _ _
  have t24 := zc_g141_3 hσ14 zc_s141
  have t25 := zc_g141_4 hσ14 zc_s141
  exact zr_vret (pc := 17) hV dX6_startAnew_17 rfl rfl ⟨rfl, hσ14, hFσ14, (by omega), (show (∀ i, 0 ≤ i → i < 8 → σ14 142 i = 0) ∧ (∀ i, 0 ≤ i → i < 256 → σ14 143 i = 0) ∧ (∀ i, 0 ≤ i → i < 64 → σ14 254 i = (i + 1) % 64) from wσ14)⟩
set_option maxHeartbeats 800000 in
theorem c_X9_wordMask_3 {σ : zq_S} (hσ : zc_T σ)   : zq_C zc_w yX9_wordMask cX9_wordMask 1 (some .int) 0 0 284 284 [ZR 3] σ (zq_pp σ (fun r => (0 ≤ r ∧ r ≤ 255) ∧ r = zx_p2 (σ 3 0) - 1)) := by
  refine zq_C_of (by decide) (Nat.le_refl _) (Nat.le_of_ble_eq_true rfl) [some (ZR 3)] rfl (fun V hV => ?_)
  show V 0 [some (ZR 3)] [] 284 σ
  refine zr_iconst (pc := 0) hV 1 dX9_wordMask_0 rfl ?_
  refine zr_aload_n (pc := 1) hV dX9_wordMask_1 rfl rfl ?_
  refine zr_getI (pc := 2) hV 0 dX9_wordMask_2 fX9_26 rfl rfl (zc_k3 zc_s3) (zc_pos zc_s3 rfl) ?_
  have t1 := zc_g3_0 hσ zc_s3
  refine zr_ishl (pc := 5) hV dX9_wordMask_5 ?_
  have t2 := zx_shl_one (y := σ 3 0) 8 256 (by decide) (by decide) (by omega)
  refine zr_iconst (pc := 6) hV 1 dX9_wordMask_6 rfl ?_
  refine zr_isub (pc := 7) hV dX9_wordMask_7 ?_
  exact zr_iret (pc := 8) hV dX9_wordMask_8 rfl rfl ⟨rfl, _, rfl, (by omega), (by omega)⟩
set_option maxHeartbeats 800000 in
theorem c_X1_useVariables_3 {σ : zq_S} (hσ : zc_T σ) (v : Int) (q0 : 0 ≤ v ∧ v ≤ 8) (Uσ : zc_U σ) : zq_C zc_w yX1_useVariables cX1_useVariables 2 (none) 0 0 284 284 [ZR 255, ZI v] σ (zq_pv (fun τ => zc_T τ ∧ zc_Fr [(255, 3), (255, 4)] σ τ ∧ (τ 255 4 = v ∧ τ 255 3 = 0) ∧ zc_U τ)) := by
  refine zq_C_of (by decide) (Nat.le_refl _) (Nat.le_of_ble_eq_true rfl) [some (ZR 255), some (ZI v)] rfl (fun V hV => ?_)
  have hFσ := zc_Fr_rf [(255, 3), (255, 4)] σ
  show V 0 [some (ZR 255), some (ZI v)] [] 284 σ
  refine zr_aload_n (pc := 0) hV dX1_useVariables_0 rfl rfl ?_
  refine zr_iload_n (pc := 1) hV dX1_useVariables_1 rfl rfl ?_
  refine zr_putI (pc := 2) hV 4 dX1_useVariables_2 fX1_38 rfl rfl rfl (zc_k255 zc_s255) (zc_pos zc_s255 rfl) (fun σ2 eσ2 => ?_)
  have hσ2 : zc_T σ2 := zc_u255_4 eσ2 hσ zc_s255 (by omega)
  have hFσ2 := zc_Fw eσ2 zc_s255 rfl hFσ
  have Uσ2 : zc_U σ2 := zc_U_fr (zc_Fw eσ2 zc_s255 rfl (zc_Fr_rf [(255, 4)] _)) rfl hσ Uσ
  refine zr_aload_n (pc := 5) hV dX1_useVariables_5 rfl rfl ?_
  refine zr_iconst (pc := 6) hV 0 dX1_useVariables_6 rfl ?_
  refine zr_putZ (pc := 7) hV 3 dX1_useVariables_7 fX1_42 rfl rfl rfl (by omega) (zc_k255 zc_s255) (zc_pos zc_s255 rfl) (fun σ7 eσ7 => ?_)
  have hσ7 : zc_T σ7 := zc_u255_3 eσ7 hσ2 zc_s255 (by omega)
  have hFσ7 := zc_Fw eσ7 zc_s255 rfl hFσ2
  have Uσ7 : zc_U σ7 := zc_U_no eσ7 Uσ2.1
  have t1 := zc_g255_3 hσ7 zc_s255
  have t2 : σ7 255 3 = 0 := by rw [eσ7]; exact zq_up_same _ _ _ _
  have t3 := zc_g255_4 hσ7 zc_s255
  have t4 : σ7 255 4 = σ2 255 4 := by rw [eσ7]; exact zq_up_ne (by omega)
  have t5 : σ2 255 4 = v := by rw [eσ2]; exact zq_up_same _ _ _ _
  exact zr_vret (pc := 10) hV dX1_useVariables_10 rfl rfl ⟨rfl, hσ7, hFσ7, (by omega), Uσ7⟩
set_option maxHeartbeats 800000 in
theorem c_X9_startAnew_3 {σ : zq_S} (hσ : zc_T σ) (w : Int) (k : Int) (b : Int) (q0 : 0 ≤ w ∧ w ≤ 8) (q1 : 0 ≤ k ∧ k ≤ 3) (q2 : 0 ≤ b ∧ b ≤ 12) : zq_C zc_w yX9_startAnew cX9_startAnew 4 (none) 1 23 284 284 [ZR 3, ZI w, ZI k, ZI b] σ (zq_pv (fun τ => zc_T τ ∧ zc_Fr [(3, 0), (3, 1), (3, 2), (3, 3), (3, 4), (11, -1)] σ τ ∧ (τ 3 0 = w ∧ τ 3 1 = k ∧ τ 3 2 = b ∧ τ 3 3 = 0 ∧ τ 3 4 = -4) ∧ zq_hid ((∀ i, 0 ≤ i → i < 4096 → τ 11 i = -1)))) := by
  refine zq_C_of (by decide) (Nat.le_refl _) (Nat.le_of_ble_eq_true rfl) [some (ZR 3), some (ZI w), some (ZI k), some (ZI b)] rfl (fun V hV => ?_)
  have hFσ := zc_Fr_rf [(3, 0), (3, 1), (3, 2), (3, 3), (3, 4), (11, -1)] σ
  show V 0 [some (ZR 3), some (ZI w), some (ZI k), some (ZI b)] [] 284 σ
  refine zr_aload_n (pc := 0) hV dX9_startAnew_0 rfl rfl ?_
  refine zr_iload_n (pc := 1) hV dX9_startAnew_1 rfl rfl ?_
  refine zr_putI (pc := 2) hV 0 dX9_startAnew_2 fX9_26 rfl rfl rfl (zc_k3 zc_s3) (zc_pos zc_s3 rfl) (fun σ2 eσ2 => ?_)
  have hσ2 : zc_T σ2 := zc_u3_0 eσ2 hσ zc_s3 (by omega)
  have hFσ2 := zc_Fw eσ2 zc_s3 rfl hFσ
  refine zr_aload_n (pc := 5) hV dX9_startAnew_5 rfl rfl ?_
  refine zr_iload_n (pc := 6) hV dX9_startAnew_6 rfl rfl ?_
  refine zr_putI (pc := 7) hV 1 dX9_startAnew_7 fX9_30 rfl rfl rfl (zc_k3 zc_s3) (zc_pos zc_s3 rfl) (fun σ7 eσ7 => ?_)
  have hσ7 : zc_T σ7 := zc_u3_1 eσ7 hσ2 zc_s3 (by omega)
  have hFσ7 := zc_Fw eσ7 zc_s3 rfl hFσ2
  refine zr_aload_n (pc := 10) hV dX9_startAnew_10 rfl rfl ?_
  refine zr_iload_n (pc := 11) hV dX9_startAnew_11 rfl rfl ?_
  refine zr_putI (pc := 12) hV 2 dX9_startAnew_12 fX9_33 rfl rfl rfl (zc_k3 zc_s3) (zc_pos zc_s3 rfl) (fun σ12 eσ12 => ?_)
  have hσ12 : zc_T σ12 := zc_u3_2 eσ12 hσ7 zc_s3 (by omega)
  have hFσ12 := zc_Fw eσ12 zc_s3 rfl hFσ7
  refine zr_aload_n (pc := 15) hV dX9_startAnew_15 rfl rfl ?_
  refine zr_iconst (pc := 16) hV 0 dX9_startAnew_16 rfl ?_
  refine zr_putI (pc := 17) hV 3 dX9_startAnew_17 fX9_36 rfl rfl rfl (zc_k3 zc_s3) (zc_pos zc_s3 rfl) (fun σ17 eσ17 => ?_)
  have hσ17 : zc_T σ17 := zc_u3_3 eσ17 hσ12 zc_s3 (by omega)
  have hFσ17 := zc_Fw eσ17 zc_s3 rfl hFσ12
  refine zr_aload_n (pc := 20) hV dX9_startAnew_20 rfl rfl ?_
  refine zr_bipush (pc := 21) hV (-4) dX9_startAnew_21 (by decide) ?_
  refine zr_putI (pc := 23) hV 4 dX9_startAnew_23 fX9_39 rfl rfl rfl (zc_k3 zc_s3) (zc_pos zc_s3 rfl) (fun σ23 eσ23 => ?_)
  have hσ23 : zc_T σ23 := zc_u3_4 eσ23 hσ17 zc_s3 (by omega)
  have hFσ23 := zc_Fw eσ23 zc_s3 rfl hFσ17
  refine zr_aload_n (pc := 26) hV dX9_startAnew_26 rfl rfl ?_
  refine zr_getR (pc := 27) hV 7 11 dX9_startAnew_27 fX9_22 rfl rfl (zc_k3 zc_s3) (zc_pos zc_s3 rfl) (zc_g3_7 hσ23 zc_s3) (by decide) ?_
  refine zr_iconst (pc := 30) hV (-1) dX9_startAnew_30 rfl ?_
  refine zr_callSv (pc := 31) hV [ZR 11, ZI (-1)] (st := []) (c_fill (σ := σ23) hσ23 11 (-1) zc_s11 rfl rfl ⟨by decide, by decide⟩ (fun _ => ⟨by omega, by omega⟩)) dX9_startAnew_31 mX9_42 (by decide) (Nat.le_of_ble_eq_true rfl) (Nat.le_refl _) (fun σ31 pσ31 => ?_)
  obtain ⟨hσ31, hfσ31, pσ31⟩ := pσ31
  have hFσ31 := zc_Fc hfσ31 rfl hFσ23
  have t1 := zc_g3_0 hσ31 zc_s3
  have t2 : σ31 3 0 = σ23 3 0 := hfσ31 _ _ (zc_out_at zc_s3 rfl)
  have t3 : σ23 3 0 = σ17 3 0 := by rw [eσ23]; exact zq_up_ne (by omega)
  have t4 : σ17 3 0 = σ12 3 0 := by rw [eσ17]; exact zq_up_ne (by omega)
  have t5 : σ12 3 0 = σ7 3 0 := by rw [eσ12]; exact zq_up_ne (by omega)
  have t6 : σ7 3 0 = σ2 3 0 := by rw [eσ7]; exact zq_up_ne (by omega)
  have t7 : σ2 3 0 = w := by rw [eσ2]; exact zq_up_same _ _ _ _
  have t8 := zc_g3_1 hσ31 zc_s3
  have t9 : σ31 3 1 = σ23 3 1 := hfσ31 _ _ (zc_out_at zc_s3 rfl)
  have t10 : σ23 3 1 = σ17 3 1 := by rw [eσ23]; exact zq_up_ne (by omega)
  have t11 : σ17 3 1 = σ12 3 1 := by rw [eσ17]; exact zq_up_ne (by omega)
  have t12 : σ12 3 1 = σ7 3 1 := by rw [eσ12]; exact zq_up_ne (by omega)
  have t13 : σ7 3 1 = k := by rw [eσ7]; exact zq_up_same _ _ _ _
  have t14 := zc_g3_2 hσ31 zc_s3
  have t15 : σ31 3 2 = σ23 3 2 := hfσ31 _ _ (zc_out_at zc_s3 rfl)
  have t16 : σ23 3 2 = σ17 3 2 := by rw [eσ23]; exact zq_up_ne (by omega)
  have t17 : σ17 3 2 = σ12 3 2 := by rw [eσ17]; exact zq_up_ne (by omega)
  have t18 : σ12 3 2 = b := by rw [eσ12]; exact zq_up_same _ _ _ _
  have t19 := zc_g3_3 hσ31 zc_s3
  have t20 : σ31 3 3 = σ23 3 3 := hfσ31 _ _ (zc_out_at zc_s3 rfl)
  have t21 : σ23 3 3 = σ17 3 3 := by rw [eσ23]; exact zq_up_ne (by omega)
  have t22 : σ17 3 3 = 0 := by rw [eσ17]; exact zq_up_same _ _ _ _
  have t23 := zc_g3_4 hσ31 zc_s3
  have t24 : σ31 3 4 = σ23 3 4 := hfσ31 _ _ (zc_out_at zc_s3 rfl)
  have t25 : σ23 3 4 = (-4) := by rw [eσ23]; exact zq_up_same _ _ _ _
  exact zr_vret (pc := 34) hV dX9_startAnew_34 rfl rfl ⟨rfl, hσ31, hFσ31, (by omega), (show (∀ i, 0 ≤ i → i < 4096 → σ31 11 i = -1) from (fun i h0 h1 => pσ31.1 i h0 (by omega)))⟩
set_option maxHeartbeats 800000 in
theorem c_X11_startAnew_3 {σ : zq_S} (hσ : zc_T σ) (w : Int) (k : Int) (b : Int) (q0 : 2 ≤ w ∧ w ≤ 8) (q1 : 1 ≤ k ∧ k ≤ 3) (q2 : 6 ≤ b ∧ b ≤ 12) (Uσ : zc_U σ) : zq_C zc_w yX11_startAnew cX11_startAnew 4 (none) 4 85 284 284 [ZR 0, ZI w, ZI k, ZI b] σ (zq_pv (fun τ => zc_T τ ∧ zc_Fr [(3, 0), (3, 1), (3, 2), (3, 3), (3, 4), (11, -1), (139, -1), (140, 5), (140, 8), (140, 9), (140, 10), (140, 11), (140, 12), (140, 13), (140, 14), (141, 0), (141, 3), (141, 4), (142, -1), (143, -1), (254, -1), (255, 3), (255, 4)] σ τ ∧ (τ 3 0 = w ∧ τ 3 1 = k ∧ τ 3 2 = b ∧ τ 3 3 = 0 ∧ τ 3 4 = -4 ∧ τ 140 12 = 2 ∧ τ 255 4 = 1 ∧ τ 255 3 = 0 ∧ τ 141 0 = zx_p2 w - 1 ∧ τ 141 3 = 0 ∧ τ 141 4 = 0 ∧ τ 140 5 = 0 ∧ τ 140 8 = 0 ∧ τ 140 9 = 0 ∧ τ 140 10 = 0 ∧ τ 140 11 = 0 ∧ τ 140 13 = 0 ∧ τ 140 14 = 0) ∧ zq_hid ((∀ i, 0 ≤ i → i < 4096 → τ 11 i = -1) ∧ (∀ i, 0 ≤ i → i < 64 → τ 139 i = 0) ∧ (∀ i, 0 ≤ i → i < 8 → τ 142 i = 0) ∧ (∀ i, 0 ≤ i → i < 256 → τ 143 i = 0) ∧ (∀ i, 0 ≤ i → i < 64 → τ 254 i = (i + 1) % 64)) ∧ zc_U τ)) := by
  refine zq_C_of (by decide) (Nat.le_refl _) (Nat.le_of_ble_eq_true rfl) [some (ZR 0), some (ZI w), some (ZI k), some (ZI b)] rfl (fun V hV => ?_)
  have hFσ := zc_Fr_rf [(3, 0), (3, 1), (3, 2), (3, 3), (3, 4), (11, -1), (139, -1), (140, 5), (140, 8), (140, 9), (140, 10), (140, 11), (140, 12), (140, 13), (140, 14), (141, 0), (141, 3), (141, 4), (142, -1), (143, -1), (254, -1), (255, 3), (255, 4)] σ
  show V 0 [some (ZR 0), some (ZI w), some (ZI k), some (ZI b)] [] 284 σ
  refine zr_aload_n (pc := 0) hV dX11_startAnew_0 rfl rfl ?_
  refine zr_getR (pc := 1) hV 1 3 dX11_startAnew_1 fX11_19 rfl rfl (zc_k0 zc_s0) (zc_pos zc_s0 rfl) (zc_g0_1 hσ zc_s0) (by decide) ?_
  refine zr_iload_n (pc := 4) hV dX11_startAnew_4 rfl rfl ?_
  refine zr_iload_n (pc := 5) hV dX11_startAnew_5 rfl rfl ?_
  refine zr_iload_n (pc := 6) hV dX11_startAnew_6 rfl rfl ?_
  refine zr_callVv (pc := 7) hV [ZI w, ZI k, ZI b] (st := []) (c_X9_startAnew_3 (σ := σ) hσ w k b (by omega) (by omega) (by omega)) dX11_startAnew_7 mX11_72 (zc_k3 zc_s3) (zc_pos zc_s3 rfl) (by decide) (Nat.le_of_ble_eq_true rfl) (Nat.le_refl _) (fun σ7 pσ7 => ?_)
  obtain ⟨hσ7, hfσ7, pσ7, wσ7⟩ := pσ7
  have hFσ7 := zc_Fc hfσ7 rfl hFσ
  have Uσ7 : zc_U σ7 := zc_U_fr hfσ7 rfl hσ Uσ
  have t1 := zc_g3_0 hσ7 zc_s3
  have t2 := zc_g3_1 hσ7 zc_s3
  have t3 := zc_g3_2 hσ7 zc_s3
  have t4 := zc_g3_3 hσ7 zc_s3
  have t5 := zc_g3_4 hσ7 zc_s3
  refine zr_aload_n (pc := 10) hV dX11_startAnew_10 rfl rfl ?_
  refine zr_getR (pc := 11) hV 4 139 dX11_startAnew_11 fX11_39 rfl rfl (zc_k0 zc_s0) (zc_pos zc_s0 rfl) (zc_g0_4 hσ7 zc_s0) (by decide) ?_
  refine zr_iconst (pc := 14) hV 0 dX11_startAnew_14 rfl ?_
  refine zr_callSv (pc := 15) hV [ZR 139, ZI 0] (st := []) (c_fill (σ := σ7) hσ7 139 0 zc_s139 rfl rfl ⟨by decide, by decide⟩ (fun _ => ⟨by omega, by omega⟩)) dX11_startAnew_15 mX11_73 (by decide) (Nat.le_of_ble_eq_true rfl) (Nat.le_refl _) (fun σ15 pσ15 => ?_)
  obtain ⟨hσ15, hfσ15, pσ15⟩ := pσ15
  have hFσ15 := zc_Fc hfσ15 rfl hFσ7
  have Uσ15 : zc_U σ15 := zc_U_fr hfσ15 rfl hσ7 Uσ7
  refine zr_aload_n (pc := 18) hV dX11_startAnew_18 rfl rfl ?_
  refine zr_getR (pc := 19) hV 5 140 dX11_startAnew_19 fX11_48 rfl rfl (zc_k0 zc_s0) (zc_pos zc_s0 rfl) (zc_g0_5 hσ15 zc_s0) (by decide) ?_
  refine zr_aload_n (pc := 22) hV dX11_startAnew_22 rfl rfl ?_
  refine zr_getR (pc := 23) hV 1 3 dX11_startAnew_23 fX11_19 rfl rfl (zc_k0 zc_s0) (zc_pos zc_s0 rfl) (zc_g0_1 hσ15 zc_s0) (by decide) ?_
  refine zr_callVp (pc := 26) hV [] (st := [ZR 140]) (c_X9_wordMask_3 (σ := σ15) hσ15) dX11_startAnew_26 mX11_79 (zc_k3 zc_s3) (zc_pos zc_s3 rfl) (by decide) (Nat.le_of_ble_eq_true rfl) (Nat.le_refl _) (fun r26 hr26 pr26 => ?_)
  have t6 := zc_g3_0 hσ15 zc_s3
  have t7 : σ15 3 0 = σ7 3 0 := hfσ15 _ _ (zc_out_at zc_s3 rfl)
  have zw : zx_p2 (σ15 3 0) = zx_p2 w := congrArg zx_p2 (show σ15 3 0 = w by omega)
  refine zr_callVv (pc := 29) hV [ZI r26] (st := []) (c_X6_startAnew_3 (σ := σ15) hσ15 r26 (by omega)) dX11_startAnew_29 mX11_83 (zc_k140 zc_s140) (zc_pos zc_s140 rfl) (by decide) (Nat.le_of_ble_eq_true rfl) (Nat.le_refl _) (fun σ29 pσ29 => ?_)
  obtain ⟨hσ29, hfσ29, pσ29, wσ29⟩ := pσ29
  have hFσ29 := zc_Fc hfσ29 rfl hFσ15
  have Uσ29 : zc_U σ29 := zc_U_fr hfσ29 rfl hσ15 Uσ15
  have t8 := zc_g140_10 hσ29 zc_s140
  have t9 := zc_g140_11 hσ29 zc_s140
  have t10 := zc_g140_12 hσ29 zc_s140
  have t11 := zc_g140_13 hσ29 zc_s140
  have t12 := zc_g140_14 hσ29 zc_s140
  have t13 := zc_g140_5 hσ29 zc_s140
  have t14 := zc_g140_8 hσ29 zc_s140
  have t15 := zc_g140_9 hσ29 zc_s140
  have t16 := zc_g141_0 hσ29 zc_s141
  have t17 := zc_g141_3 hσ29 zc_s141
  have t18 := zc_g141_4 hσ29 zc_s141
  refine zr_aload_n (pc := 32) hV dX11_startAnew_32 rfl rfl ?_
  refine zr_getR (pc := 33) hV 6 255 dX11_startAnew_33 fX11_57 rfl rfl (zc_k0 zc_s0) (zc_pos zc_s0 rfl) (zc_g0_6 hσ29 zc_s0) (by decide) ?_
  refine zr_iconst (pc := 36) hV 1 dX11_startAnew_36 rfl ?_
  refine zr_callVv (pc := 37) hV [ZI 1] (st := []) (c_X1_useVariables_3 (σ := σ29) hσ29 1 (by omega) Uσ29) dX11_startAnew_37 mX11_86 (zc_k255 zc_s255) (zc_pos zc_s255 rfl) (by decide) (Nat.le_of_ble_eq_true rfl) (Nat.le_refl _) (fun σ37 pσ37 => ?_)
  obtain ⟨hσ37, hfσ37, pσ37, Uσ37⟩ := pσ37
  have hFσ37 := zc_Fc hfσ37 rfl hFσ29
  have t19 := zc_g255_3 hσ37 zc_s255
  have t20 := zc_g255_4 hσ37 zc_s255
  have t21 := zc_g140_10 hσ37 zc_s140
  have t22 : σ37 140 10 = σ29 140 10 := hfσ37 _ _ (zc_out_at zc_s140 rfl)
  have t23 := zc_g140_11 hσ37 zc_s140
  have t24 : σ37 140 11 = σ29 140 11 := hfσ37 _ _ (zc_out_at zc_s140 rfl)
  have t25 := zc_g140_12 hσ37 zc_s140
  have t26 : σ37 140 12 = σ29 140 12 := hfσ37 _ _ (zc_out_at zc_s140 rfl)
  have t27 := zc_g140_13 hσ37 zc_s140
  have t28 : σ37 140 13 = σ29 140 13 := hfσ37 _ _ (zc_out_at zc_s140 rfl)
  have t29 := zc_g140_14 hσ37 zc_s140
  have t30 : σ37 140 14 = σ29 140 14 := hfσ37 _ _ (zc_out_at zc_s140 rfl)
  have t31 := zc_g140_5 hσ37 zc_s140
  have t32 : σ37 140 5 = σ29 140 5 := hfσ37 _ _ (zc_out_at zc_s140 rfl)
  have t33 := zc_g140_8 hσ37 zc_s140
  have t34 : σ37 140 8 = σ29 140 8 := hfσ37 _ _ (zc_out_at zc_s140 rfl)
  have t35 := zc_g140_9 hσ37 zc_s140
  have t36 : σ37 140 9 = σ29 140 9 := hfσ37 _ _ (zc_out_at zc_s140 rfl)
  have t37 := zc_g141_0 hσ37 zc_s141
  have t38 : σ37 141 0 = σ29 141 0 := hfσ37 _ _ (zc_out_at zc_s141 rfl)
  have t39 := zc_g141_3 hσ37 zc_s141
  have t40 : σ37 141 3 = σ29 141 3 := hfσ37 _ _ (zc_out_at zc_s141 rfl)
  have t41 := zc_g141_4 hσ37 zc_s141
  have t42 : σ37 141 4 = σ29 141 4 := hfσ37 _ _ (zc_out_at zc_s141 rfl)
  have t43 := zc_g255_3 hσ37 zc_s255
  have t44 := zc_g255_4 hσ37 zc_s255
  have t45 := zc_g3_0 hσ37 zc_s3
  have t46 : σ37 3 0 = σ29 3 0 := hfσ37 _ _ (zc_out_at zc_s3 rfl)
  have t47 : σ29 3 0 = σ15 3 0 := hfσ29 _ _ (zc_out_at zc_s3 rfl)
  have t48 : σ15 3 0 = σ7 3 0 := hfσ15 _ _ (zc_out_at zc_s3 rfl)
  have t49 := zc_g3_1 hσ37 zc_s3
  have t50 : σ37 3 1 = σ29 3 1 := hfσ37 _ _ (zc_out_at zc_s3 rfl)
  have t51 : σ29 3 1 = σ15 3 1 := hfσ29 _ _ (zc_out_at zc_s3 rfl)
  have t52 : σ15 3 1 = σ7 3 1 := hfσ15 _ _ (zc_out_at zc_s3 rfl)
  have t53 := zc_g3_2 hσ37 zc_s3
  have t54 : σ37 3 2 = σ29 3 2 := hfσ37 _ _ (zc_out_at zc_s3 rfl)
  have t55 : σ29 3 2 = σ15 3 2 := hfσ29 _ _ (zc_out_at zc_s3 rfl)
  have t56 : σ15 3 2 = σ7 3 2 := hfσ15 _ _ (zc_out_at zc_s3 rfl)
  have t57 := zc_g3_3 hσ37 zc_s3
  have t58 : σ37 3 3 = σ29 3 3 := hfσ37 _ _ (zc_out_at zc_s3 rfl)
  have t59 : σ29 3 3 = σ15 3 3 := hfσ29 _ _ (zc_out_at zc_s3 rfl)
  have t60 : σ15 3 3 = σ7 3 3 := hfσ15 _ _ (zc_out_at zc_s3 rfl)
  have t61 := zc_g3_4 hσ37 zc_s3
  have t62 : σ37 3 4 = σ29 3 4 := hfσ37 _ _ (zc_out_at zc_s3 rfl)
  have t63 : σ29 3 4 = σ15 3 4 := hfσ29 _ _ (zc_out_at zc_s3 rfl)
  have t64 : σ15 3 4 = σ7 3 4 := hfσ15 _ _ (zc_out_at zc_s3 rfl)
  exact zr_vret (pc := 40) hV dX11_startAnew_40 rfl rfl ⟨rfl, hσ37, hFσ37, (by omega), (show (∀ i, 0 ≤ i → i < 4096 → σ37 11 i = -1) ∧ (∀ i, 0 ≤ i → i < 64 → σ37 139 i = 0) ∧ (∀ i, 0 ≤ i → i < 8 → σ37 142 i = 0) ∧ (∀ i, 0 ≤ i → i < 256 → σ37 143 i = 0) ∧ (∀ i, 0 ≤ i → i < 64 → σ37 254 i = (i + 1) % 64) from ⟨fun i h0 h1 => by rw [hfσ37 11 _ (zc_out_ar zc_s11 rfl), hfσ29 11 _ (zc_out_ar zc_s11 rfl), hfσ15 11 _ (zc_out_ar zc_s11 rfl)]; exact wσ7 i h0 h1, fun i h0 h1 => by rw [hfσ37 139 _ (zc_out_ar zc_s139 rfl), hfσ29 139 _ (zc_out_ar zc_s139 rfl)]; exact pσ15.1 i h0 (by omega), fun i h0 h1 => by rw [hfσ37 142 _ (zc_out_ar zc_s142 rfl)]; exact wσ29.1 i h0 h1, fun i h0 h1 => by rw [hfσ37 143 _ (zc_out_ar zc_s143 rfl)]; exact wσ29.2.1 i h0 h1, fun i h0 h1 => by rw [hfσ37 254 _ (zc_out_ar zc_s254 rfl)]; exact wσ29.2.2 i h0 h1⟩), Uσ37⟩
set_option maxHeartbeats 800000 in
theorem c_X11_begin_3 {σ : zq_S} (hσ : zc_T σ) (w : Int) (k : Int) (b : Int) (q0 : zq_in w) (q1 : zq_in k) (q2 : zq_in b) (Uσ : zc_U σ) : zq_C zc_w yX11_begin cX11_begin 4 (some .int) 5 108 284 284 [ZR 0, ZI w, ZI k, ZI b] σ (zq_pi (fun r τ => zc_T τ ∧ zc_Fr [(3, 0), (3, 1), (3, 2), (3, 3), (3, 4), (11, -1), (139, -1), (140, 5), (140, 8), (140, 9), (140, 10), (140, 11), (140, 12), (140, 13), (140, 14), (141, 0), (141, 3), (141, 4), (142, -1), (143, -1), (254, -1), (255, 3), (255, 4)] σ τ ∧ ((2 ≤ w ∧ w ≤ 8 ∧ 1 ≤ k ∧ k ≤ 3 ∧ 6 ≤ b ∧ b ≤ 12 → r = 1 ∧ τ 3 0 = w ∧ τ 3 1 = k ∧ τ 3 2 = b ∧ τ 3 3 = 0 ∧ τ 3 4 = -4 ∧ τ 140 12 = 2 ∧ τ 255 4 = 1 ∧ τ 255 3 = 0 ∧ τ 141 0 = zx_p2 w - 1 ∧ τ 141 3 = 0 ∧ τ 141 4 = 0 ∧ τ 140 5 = 0 ∧ τ 140 8 = 0 ∧ τ 140 9 = 0 ∧ τ 140 10 = 0 ∧ τ 140 11 = 0 ∧ τ 140 13 = 0 ∧ τ 140 14 = 0) ∧ (¬ (2 ≤ w ∧ w ≤ 8 ∧ 1 ≤ k ∧ k ≤ 3 ∧ 6 ≤ b ∧ b ≤ 12) → r = -1)) ∧ zq_hid ((2 ≤ w ∧ w ≤ 8 ∧ 1 ≤ k ∧ k ≤ 3 ∧ 6 ≤ b ∧ b ≤ 12 → (∀ i, 0 ≤ i → i < 4096 → τ 11 i = -1) ∧ (∀ i, 0 ≤ i → i < 64 → τ 139 i = 0) ∧ (∀ i, 0 ≤ i → i < 8 → τ 142 i = 0) ∧ (∀ i, 0 ≤ i → i < 256 → τ 143 i = 0) ∧ (∀ i, 0 ≤ i → i < 64 → τ 254 i = (i + 1) % 64)) ∧ (¬ (2 ≤ w ∧ w ≤ 8 ∧ 1 ≤ k ∧ k ≤ 3 ∧ 6 ≤ b ∧ b ≤ 12) → ∀ x i, τ x i = σ x i)) ∧ zc_U τ)) := by
  refine zq_C_of (by decide) (Nat.le_refl _) (Nat.le_of_ble_eq_true rfl) [some (ZR 0), some (ZI w), some (ZI k), some (ZI b)] rfl (fun V hV => ?_)
  have hFσ := zc_Fr_rf [(3, 0), (3, 1), (3, 2), (3, 3), (3, 4), (11, -1), (139, -1), (140, 5), (140, 8), (140, 9), (140, 10), (140, 11), (140, 12), (140, 13), (140, 14), (141, 0), (141, 3), (141, 4), (142, -1), (143, -1), (254, -1), (255, 3), (255, 4)] σ
  show V 0 [some (ZR 0), some (ZI w), some (ZI k), some (ZI b)] [] 284 σ
  refine zr_iload_n (pc := 0) hV dX11_begin_0 rfl rfl ?_
  refine zr_iconst (pc := 1) hV 2 dX11_begin_1 rfl ?_
  refine zr_bipush (pc := 2) hV 8 dX11_begin_2 (by decide) ?_
  refine zr_callSp (pc := 4) hV [ZI w, ZI 2, ZI 8] (st := []) (c_X11_within (σ := σ) w 2 8 (by omega) (by omega) (by omega)) dX11_begin_4 mX11_89 (by decide) (Nat.le_of_ble_eq_true rfl) (Nat.le_refl _) (fun r4 hr4 pr4 => ?_)
  refine zr_if_eq (pc := 7) hV 30 dX11_begin_7 (by decide) (by omega) (fun c1 => ?_) (fun c1 => ?_)
  · show V 30 [some (ZR 0), some (ZI w), some (ZI k), some (ZI b)] [] 284 σ
    refine zr_iconst (pc := 30) hV (-1) dX11_begin_30 rfl ?_
    have t2 := zc_g140_10 hσ zc_s140
    have t3 := zc_g140_11 hσ zc_s140
    have t4 := zc_g140_12 hσ zc_s140
    have t5 := zc_g140_13 hσ zc_s140
    have t6 := zc_g140_14 hσ zc_s140
    have t7 := zc_g140_5 hσ zc_s140
    have t8 := zc_g140_8 hσ zc_s140
    have t9 := zc_g140_9 hσ zc_s140
    have t10 := zc_g141_0 hσ zc_s141
    have t11 := zc_g141_3 hσ zc_s141
    have t12 := zc_g141_4 hσ zc_s141
    have t13 := zc_g255_3 hσ zc_s255
    have t14 := zc_g255_4 hσ zc_s255
    have t15 := zc_g3_0 hσ zc_s3
    have t16 := zc_g3_1 hσ zc_s3
    have t17 := zc_g3_2 hσ zc_s3
    have t18 := zc_g3_3 hσ zc_s3
    have t19 := zc_g3_4 hσ zc_s3
    exact zr_iret (pc := 31) hV dX11_begin_31 rfl rfl ⟨_, rfl, ⟨by decide, by decide⟩, hσ, hFσ, (by omega), (show (2 ≤ w ∧ w ≤ 8 ∧ 1 ≤ k ∧ k ≤ 3 ∧ 6 ≤ b ∧ b ≤ 12 → (∀ i, 0 ≤ i → i < 4096 → σ 11 i = -1) ∧ (∀ i, 0 ≤ i → i < 64 → σ 139 i = 0) ∧ (∀ i, 0 ≤ i → i < 8 → σ 142 i = 0) ∧ (∀ i, 0 ≤ i → i < 256 → σ 143 i = 0) ∧ (∀ i, 0 ≤ i → i < 64 → σ 254 i = (i + 1) % 64)) ∧ (¬ (2 ≤ w ∧ w ≤ 8 ∧ 1 ≤ k ∧ k ≤ 3 ∧ 6 ≤ b ∧ b ≤ 12) → ∀ x i, σ x i = σ x i) from ⟨fun h => absurd h (by omega), fun _ _ _ => rfl⟩), Uσ⟩
  · show V 10 [some (ZR 0), some (ZI w), some (ZI k), some (ZI b)] [] 284 σ
    refine zr_iload_n (pc := 10) hV dX11_begin_10 rfl rfl ?_
    refine zr_iconst (pc := 11) hV 1 dX11_begin_11 rfl ?_
    refine zr_iconst (pc := 12) hV 3 dX11_begin_12 rfl ?_
    refine zr_callSp (pc := 13) hV [ZI k, ZI 1, ZI 3] (st := []) (c_X11_within (σ := σ) k 1 3 (by omega) (by omega) (by omega)) dX11_begin_13 mX11_89 (by decide) (Nat.le_of_ble_eq_true rfl) (Nat.le_refl _) (fun r13 hr13 pr13 => ?_)
    refine zr_if_eq (pc := 16) hV 30 dX11_begin_16 (by decide) (by omega) (fun c20 => ?_) (fun c20 => ?_)
    · show V 30 [some (ZR 0), some (ZI w), some (ZI k), some (ZI b)] [] 284 σ
      refine zr_iconst (pc := 30) hV (-1) dX11_begin_30 rfl ?_
      have t21 := zc_g140_10 hσ zc_s140
      have t22 := zc_g140_11 hσ zc_s140
      have t23 := zc_g140_12 hσ zc_s140
      have t24 := zc_g140_13 hσ zc_s140
      have t25 := zc_g140_14 hσ zc_s140
      have t26 := zc_g140_5 hσ zc_s140
      have t27 := zc_g140_8 hσ zc_s140
      have t28 := zc_g140_9 hσ zc_s140
      have t29 := zc_g141_0 hσ zc_s141
      have t30 := zc_g141_3 hσ zc_s141
      have t31 := zc_g141_4 hσ zc_s141
      have t32 := zc_g255_3 hσ zc_s255
      have t33 := zc_g255_4 hσ zc_s255
      have t34 := zc_g3_0 hσ zc_s3
      have t35 := zc_g3_1 hσ zc_s3
      have t36 := zc_g3_2 hσ zc_s3
      have t37 := zc_g3_3 hσ zc_s3
      have t38 := zc_g3_4 hσ zc_s3
      exact zr_iret (pc := 31) hV dX11_begin_31 rfl rfl ⟨_, rfl, ⟨by decide, by decide⟩, hσ, hFσ, (by omega), (show (2 ≤ w ∧ w ≤ 8 ∧ 1 ≤ k ∧ k ≤ 3 ∧ 6 ≤ b ∧ b ≤ 12 → (∀ i, 0 ≤ i → i < 4096 → σ 11 i = -1) ∧ (∀ i, 0 ≤ i → i < 64 → σ 139 i = 0) ∧ (∀ i, 0 ≤ i → i < 8 → σ 142 i = 0) ∧ (∀ i, 0 ≤ i → i < 256 → σ 143 i = 0) ∧ (∀ i, 0 ≤ i → i < 64 → σ 254 i = (i + 1) % 64)) ∧ (¬ (2 ≤ w ∧ w ≤ 8 ∧ 1 ≤ k ∧ k ≤ 3 ∧ 6 ≤ b ∧ b ≤ 12) → ∀ x i, σ x i = σ x i) from ⟨fun h => absurd h (by omega), fun _ _ _ => rfl⟩), Uσ⟩
    · show V 19 [some (ZR 0), some (ZI w), some (ZI k), some (ZI b)] [] 284 σ
      refine zr_iload_n (pc := 19) hV dX11_begin_19 rfl rfl ?_
      refine zr_bipush (pc := 20) hV 6 dX11_begin_20 (by decide) ?_
      refine zr_bipush (pc := 22) hV 12 dX11_begin_22 (by decide) ?_
      refine zr_callSp (pc := 24) hV [ZI b, ZI 6, ZI 12] (st := []) (c_X11_within (σ := σ) b 6 12 (by omega) (by omega) (by omega)) dX11_begin_24 mX11_89 (by decide) (Nat.le_of_ble_eq_true rfl) (Nat.le_refl _) (fun r24 hr24 pr24 => ?_)
      refine zr_if_ne (pc := 27) hV 32 dX11_begin_27 (by decide) (by omega) (fun c39 => ?_) (fun c39 => ?_)
      · show V 32 [some (ZR 0), some (ZI w), some (ZI k), some (ZI b)] [] 284 σ
        refine zr_aload_n (pc := 32) hV dX11_begin_32 rfl rfl ?_
        refine zr_iload_n (pc := 33) hV dX11_begin_33 rfl rfl ?_
        refine zr_iload_n (pc := 34) hV dX11_begin_34 rfl rfl ?_
        refine zr_iload_n (pc := 35) hV dX11_begin_35 rfl rfl ?_
        refine zr_callVv (pc := 36) hV [ZI w, ZI k, ZI b] (st := []) (c_X11_startAnew_3 (σ := σ) hσ w k b (by omega) (by omega) (by omega) Uσ) dX11_begin_36 mX11_68 (zc_k0 zc_s0) (zc_pos zc_s0 rfl) (by decide) (Nat.le_of_ble_eq_true rfl) (Nat.le_refl _) (fun σ36 pσ36 => ?_)
        obtain ⟨hσ36, hfσ36, pσ36, wσ36, Uσ36⟩ := pσ36
        have hFσ36 := zc_Fc hfσ36 rfl hFσ
        have t40 := zc_g140_10 hσ36 zc_s140
        have t41 := zc_g140_11 hσ36 zc_s140
        have t42 := zc_g140_12 hσ36 zc_s140
        have t43 := zc_g140_13 hσ36 zc_s140
        have t44 := zc_g140_14 hσ36 zc_s140
        have t45 := zc_g140_5 hσ36 zc_s140
        have t46 := zc_g140_8 hσ36 zc_s140
        have t47 := zc_g140_9 hσ36 zc_s140
        have t48 := zc_g141_0 hσ36 zc_s141
        have t49 := zc_g141_3 hσ36 zc_s141
        have t50 := zc_g141_4 hσ36 zc_s141
        have t51 := zc_g255_3 hσ36 zc_s255
        have t52 := zc_g255_4 hσ36 zc_s255
        have t53 := zc_g3_0 hσ36 zc_s3
        have t54 := zc_g3_1 hσ36 zc_s3
        have t55 := zc_g3_2 hσ36 zc_s3
        have t56 := zc_g3_3 hσ36 zc_s3
        have t57 := zc_g3_4 hσ36 zc_s3
        refine zr_iconst (pc := 39) hV 1 dX11_begin_39 rfl ?_
        have t58 := zc_g140_10 hσ36 zc_s140
        have t59 := zc_g140_11 hσ36 zc_s140
        have t60 := zc_g140_12 hσ36 zc_s140
        have t61 := zc_g140_13 hσ36 zc_s140
        have t62 := zc_g140_14 hσ36 zc_s140
        have t63 := zc_g140_5 hσ36 zc_s140
        have t64 := zc_g140_8 hσ36 zc_s140
        have t65 := zc_g140_9 hσ36 zc_s140
        have t66 := zc_g141_0 hσ36 zc_s141
        have t67 := zc_g141_3 hσ36 zc_s141
        have t68 := zc_g141_4 hσ36 zc_s141
        have t69 := zc_g255_3 hσ36 zc_s255
        have t70 := zc_g255_4 hσ36 zc_s255
        have t71 := zc_g3_0 hσ36 zc_s3
        have t72 := zc_g3_1 hσ36 zc_s3
        have t73 := zc_g3_2 hσ36 zc_s3
        have t74 := zc_g3_3 hσ36 zc_s3
        have t75 := zc_g3_4 hσ36 zc_s3
        exact zr_iret (pc := 40) hV dX11_begin_40 rfl rfl ⟨_, rfl, ⟨by decide, by decide⟩, hσ36, hFσ36, (by omega), (show (2 ≤ w ∧ w ≤ 8 ∧ 1 ≤ k ∧ k ≤ 3 ∧ 6 ≤ b ∧ b ≤ 12 → (∀ i, 0 ≤ i → i < 4096 → σ36 11 i = -1) ∧ (∀ i, 0 ≤ i → i < 64 → σ36 139 i = 0) ∧ (∀ i, 0 ≤ i → i < 8 → σ36 142 i = 0) ∧ (∀ i, 0 ≤ i → i < 256 → σ36 143 i = 0) ∧ (∀ i, 0 ≤ i → i < 64 → σ36 254 i = (i + 1) % 64)) ∧ (¬ (2 ≤ w ∧ w ≤ 8 ∧ 1 ≤ k ∧ k ≤ 3 ∧ 6 ≤ b ∧ b ≤ 12) → ∀ x i, σ36 x i = σ x i) from ⟨fun _ => wσ36, fun h => absurd (by omega) h⟩), Uσ36⟩
      · show V 30 [some (ZR 0), some (ZI w), some (ZI k), some (ZI b)] [] 284 σ
        refine zr_iconst (pc := 30) hV (-1) dX11_begin_30 rfl ?_
        have t76 := zc_g140_10 hσ zc_s140
        have t77 := zc_g140_11 hσ zc_s140
        have t78 := zc_g140_12 hσ zc_s140
        have t79 := zc_g140_13 hσ zc_s140
        have t80 := zc_g140_14 hσ zc_s140
        have t81 := zc_g140_5 hσ zc_s140
        have t82 := zc_g140_8 hσ zc_s140
        have t83 := zc_g140_9 hσ zc_s140
        have t84 := zc_g141_0 hσ zc_s141
        have t85 := zc_g141_3 hσ zc_s141
        have t86 := zc_g141_4 hσ zc_s141
        have t87 := zc_g255_3 hσ zc_s255
        have t88 := zc_g255_4 hσ zc_s255
        have t89 := zc_g3_0 hσ zc_s3
        have t90 := zc_g3_1 hσ zc_s3
        have t91 := zc_g3_2 hσ zc_s3
        have t92 := zc_g3_3 hσ zc_s3
        have t93 := zc_g3_4 hσ zc_s3
        exact zr_iret (pc := 31) hV dX11_begin_31 rfl rfl ⟨_, rfl, ⟨by decide, by decide⟩, hσ, hFσ, (by omega), (show (2 ≤ w ∧ w ≤ 8 ∧ 1 ≤ k ∧ k ≤ 3 ∧ 6 ≤ b ∧ b ≤ 12 → (∀ i, 0 ≤ i → i < 4096 → σ 11 i = -1) ∧ (∀ i, 0 ≤ i → i < 64 → σ 139 i = 0) ∧ (∀ i, 0 ≤ i → i < 8 → σ 142 i = 0) ∧ (∀ i, 0 ≤ i → i < 256 → σ 143 i = 0) ∧ (∀ i, 0 ≤ i → i < 64 → σ 254 i = (i + 1) % 64)) ∧ (¬ (2 ≤ w ∧ w ≤ 8 ∧ 1 ≤ k ∧ k ≤ 3 ∧ 6 ≤ b ∧ b ≤ 12) → ∀ x i, σ x i = σ x i) from ⟨fun h => absurd h (by omega), fun _ _ _ => rfl⟩), Uσ⟩
