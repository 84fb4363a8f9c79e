set_option maxHeartbeats 800000 in
theorem c_X12_type2 {σ : zq_S} (hσ : zx_T σ) (v n : Int) (q0 : zq_inL v) (q1 : zq_in n) : zq_C zx_w yX12_type cX12_type 5 (some .int) 1 25 41 41 [ZR 0, ZL v, ZI n] σ (zq_pi (fun r τ => zx_T τ ∧ (∀ a i : Int, (¬ (a = 0 ∧ i = 14) ∧ a ≠ 10) → τ a i = σ a i) ∧ (True) ∧ zq_hid (zu_ty (σ 10) (τ 10) (σ 0 14) (τ 0 14) v n r))) := by
  refine zq_C_of (by decide) (Nat.le_refl _) (Nat.le_of_ble_eq_true rfl) [some (ZR 0), some (ZL v), none, some (ZI n), none] rfl (fun V hV => ?_)
  have z14 := zx_g14 hσ
  show V 0 [some (ZR 0), some (ZL v), none, some (ZI n), none] [] 41 σ
  refine zr_iload_n (pc := 0) hV dX12_type_0 rfl rfl ?_
  refine zr_i2l (pc := 1) hV dX12_type_1 (by omega) ?_
  refine zr_lconst (pc := 2) hV 1 dX12_type_2 (by decide) ?_
  refine zr_ldc2 (pc := 3) (v := 8) hV 8 dX12_type_3 kX12_168 (by decide) ?_
  refine zr_callSp (pc := 6) hV [ZL n, ZL 1, ZL 8] (st := []) (c_X12_in (σ := σ) n 1 8 (by omega) (by omega) (by omega)) dX12_type_6 mX12_170 (by decide) (Nat.le_of_ble_eq_true rfl) (Nat.le_refl _) (fun r6 hr6 pr6 => ?_)
  refine zr_if_ne (pc := 9) hV 14 dX12_type_9 (by decide) (by omega) (fun c1 => ?_) (fun c1 => ?_)
  · show V 14 [some (ZR 0), some (ZL v), none, some (ZI n), none] [] 41 σ
    refine zr_iload_n (pc := 14) hV dX12_type_14 rfl rfl ?_
    refine zr_iconst (pc := 15) hV 1 dX12_type_15 rfl ?_
    refine zr_isub (pc := 16) hV dX12_type_16 ?_
    refine zr_istore (pc := 17) hV [some (ZR 0), some (ZL v), none, some (ZI n), some (ZI (n - 1))] dX12_type_17 (by decide) rfl rfl ?_
    have L19 : ∀ (fuel : Nat) (x4_19 : Int), ((-1) ≤ x4_19 ∧ x4_19 ≤ 7) → (zq_hid (∀ i, x4_19 < i → i < n → 32 ≤ zu_by v i ∧ zu_by v i ≤ 126)) → (x4_19 ≤ n - 1) → x4_19 - (-1) < (fuel : Int) → V 19 [some (ZR 0), some (ZL v), none, some (ZI n), some (ZI x4_19)] [] 41 σ := by
      intro fuel
      induction fuel with
      | zero =>
        intro x4_19 hx4_19 hi19_0 hi19_1 hm19
        exfalso; omega
      | succ fuel ih =>
        intro x4_19 hx4_19 hi19_0 hi19_1 hm19
        have ih19 := ih
        show V 19 [some (ZR 0), some (ZL v), none, some (ZI n), some (ZI x4_19)] [] 41 σ
        refine zr_iload (pc := 19) hV dX12_type_19 rfl ?_
        refine zr_if_lt (pc := 21) hV 55 dX12_type_21 (by decide) (by omega) (fun c2 => ?_) (fun c2 => ?_)
        · show V 55 [some (ZR 0), some (ZL v), none, some (ZI n), some (ZI x4_19)] [] 41 σ
          have zok : zu_ok v n := ⟨by omega, by omega, fun i h0 h1 => hi19_0 i (by omega) h1⟩
          refine zr_aload_n (pc := 55) hV dX12_type_55 rfl rfl ?_
          refine zr_getI (pc := 56) hV 14 dX12_type_56 fX12_197 rfl rfl rfl (by decide) ?_
          have t3 := zx_g14 hσ
          refine zr_iload_n (pc := 59) hV dX12_type_59 rfl rfl ?_
          refine zr_iadd (pc := 60) hV dX12_type_60 ?_
          refine zr_bipush (pc := 61) hV 80 dX12_type_61 (by decide) ?_
          refine zr_icmp_le (pc := 63) hV 69 dX12_type_63 (by decide) (by omega) ⟨by decide, by decide⟩ (fun c4 => ?_) (fun c4 => ?_)
          · show V 69 [some (ZR 0), some (ZL v), none, some (ZI n), some (ZI x4_19)] [] 41 σ
            refine zr_iload_n (pc := 69) hV dX12_type_69 rfl rfl ?_
            refine zr_iconst (pc := 70) hV 1 dX12_type_70 rfl ?_
            refine zr_isub (pc := 71) hV dX12_type_71 ?_
            refine zr_istore (pc := 72) hV [some (ZR 0), some (ZL v), none, some (ZI n), some (ZI (n - 1))] dX12_type_72 (by decide) rfl rfl ?_
            have L74 : ∀ (fuel : Nat) (x4_74 : Int) (σ_74 : zq_S), ((-1) ≤ x4_74 ∧ x4_74 ≤ 7) → (zx_T σ_74) → (∀ a i : Int, (¬ (a = 0 ∧ i = 14) ∧ a ≠ 10) → σ_74 a i = σ a i) → (σ_74 0 14 = σ 0 14 + n - 1 - x4_74) → (zq_hid (∀ j, σ_74 10 j = if σ 0 14 ≤ j ∧ j < σ 0 14 + (n - 1 - x4_74) then zu_by v (n - 1 - (j - σ 0 14)) else σ 10 j)) → (x4_74 ≤ n - 1) → x4_74 - (-1) < (fuel : Int) → V 74 [some (ZR 0), some (ZL v), none, none, some (ZI x4_74)] [] 41 σ_74 := by
              intro fuel
              induction fuel with
              | zero =>
                intro x4_74 σ_74 hx4_74 hσ_74 hFσ_74 hi74_0 hi74_1 hi74_2 hm74
                exfalso; omega
              | succ fuel ih =>
                intro x4_74 σ_74 hx4_74 hσ_74 hFσ_74 hi74_0 hi74_1 hi74_2 hm74
                have ih74 := ih
                show V 74 [some (ZR 0), some (ZL v), none, none, some (ZI x4_74)] [] 41 σ_74
                refine zr_iload (pc := 74) hV dX12_type_74 rfl ?_
                refine zr_if_lt (pc := 76) hV 116 dX12_type_76 (by decide) (by omega) (fun c5 => ?_) (fun c5 => ?_)
                · show V 116 [some (ZR 0), some (ZL v), none, none, some (ZI x4_74)] [] 41 σ_74
                  refine zr_aload_n (pc := 116) hV dX12_type_116 rfl rfl ?_
                  refine zr_getI (pc := 117) hV 14 dX12_type_117 fX12_197 rfl rfl rfl (by decide) ?_
                  have t6 := zx_g14 hσ_74
                  have t7 := zx_g14 hσ_74
                  exact zr_iret (pc := 120) hV dX12_type_120 rfl rfl ⟨_, rfl, (by omega), hσ_74, hFσ_74, trivial, (show zu_ty (σ 10) (σ_74 10) (σ 0 14) (σ_74 0 14) v n (σ_74 0 14) from ⟨fun h => absurd zok h, fun _ => ⟨fun h => absurd h (by omega), fun _ => ⟨by omega, by omega, fun j => by rw [hi74_1 j, show σ 0 14 + (n - 1 - x4_74) = σ 0 14 + n by omega]⟩⟩⟩)⟩
                · show V 79 [some (ZR 0), some (ZL v), none, none, some (ZI x4_74)] [] 41 σ_74
                  refine zr_aload_n (pc := 79) hV dX12_type_79 rfl rfl ?_
                  refine zr_getR (pc := 80) hV 13 10 dX12_type_80 fX12_47 rfl rfl rfl (by decide) (zx_g13 hσ_74) (by omega) ?_
                  refine zr_aload_n (pc := 83) hV dX12_type_83 rfl rfl ?_
                  refine zr_getI (pc := 84) hV 14 dX12_type_84 fX12_197 rfl rfl rfl (by decide) ?_
                  have t8 := zx_g14 hσ_74
                  refine zr_lload_n (pc := 87) hV dX12_type_87 rfl rfl ?_
                  refine zr_bipush (pc := 88) hV 8 dX12_type_88 (by decide) ?_
                  refine zr_iload (pc := 90) hV dX12_type_90 rfl ?_
                  refine zr_imul (pc := 92) hV dX12_type_92 ?_
                  refine zr_lshr (pc := 93) hV dX12_type_93 ?_
                  have t9 := zq_lshr_in v (8 * x4_74)
                  refine zr_ldc2 (pc := 94) (v := 255) hV 255 dX12_type_94 kX12_191 (by decide) ?_
                  refine zr_land (pc := 97) hV dX12_type_97 ?_
                  have t10 := zq_landL_in (zq_lshr v (8 * x4_74)) 255
                  refine zr_l2i (pc := 98) hV dX12_type_98 ?_
                  have t11 := zq_l2i_in (zq_landL (zq_lshr v (8 * x4_74)) 255)
                  have zb2 : zq_l2i (zq_landL (zq_lshr v (8 * x4_74)) 255) = zu_by v x4_74 := zu_l2i (zu_by_r (w := v) (i := x4_74) (by omega) (by omega))
                  refine zr_iast (pc := 99) hV dX12_type_99 rfl (by decide) rfl (by omega) (fun σ99 eσ99 => ?_)
                  have hσ99 : zx_T σ99 := zx_ua10 eσ99 hσ_74 (by omega)
                  have hFσ99 : ∀ a i : Int, (¬ (a = 0 ∧ i = 14) ∧ a ≠ 10) → σ99 a i = σ a i := fun a i h => by rw [eσ99, zq_up_ne (fun q => h.2 q.1)]; exact hFσ_74 a i h
                  refine zr_aload_n (pc := 100) hV dX12_type_100 rfl rfl ?_
                  refine zr_dup (pc := 101) hV dX12_type_101 (fun _ => rfl) ?_
                  refine zr_getI (pc := 102) hV 14 dX12_type_102 fX12_197 rfl rfl rfl (by decide) ?_
                  have t12 := zx_g14 hσ99
                  have t13 : σ99 0 14 = σ_74 0 14 := by rw [eσ99]; exact zq_up_ne (by omega)
                  refine zr_iconst (pc := 105) hV 1 dX12_type_105 rfl ?_
                  refine zr_iadd (pc := 106) hV dX12_type_106 ?_
                  refine zr_putI (pc := 107) hV 14 dX12_type_107 fX12_197 rfl rfl rfl rfl (by decide) (fun σ107 eσ107 => ?_)
                  have hσ107 : zx_T σ107 := zx_u14 eσ107 hσ99 (by omega)
                  have hFσ107 : ∀ a i : Int, (¬ (a = 0 ∧ i = 14) ∧ a ≠ 10) → σ107 a i = σ a i := fun a i h => by rw [eσ107, zq_up_ne h.1]; exact hFσ99 a i h
                  refine zr_iinc (pc := 110) hV [some (ZR 0), some (ZL v), none, none, some (ZI (x4_74 + (-1)))] (x4_74 + (-1)) dX12_type_110 rfl rfl (by decide) rfl rfl ?_
                  refine zr_goto (pc := 113) hV 74 dX12_type_113 (by decide) ?_
                  have t14 := zx_g14 hσ107
                  have t15 : σ107 0 14 = (σ99 0 14) + 1 := by rw [eσ107]; exact zq_up_same _ _ _ _
                  exact ih74 (x4_74 + (-1)) σ107 (by omega) hσ107 hFσ107 (by omega) (fun j => if hc : j = σ_74 0 14 then (by rw [hc, eσ107, zq_up_ne (by omega), eσ99, zq_up_same, if_pos (by omega), zb2, show n - 1 - (σ_74 0 14 - σ 0 14) = x4_74 by omega]) else (by rw [eσ107, zq_up_ne (by omega), eσ99, zq_up_ne (by omega), hi74_1 j]; exact if hd : σ 0 14 ≤ j ∧ j < σ 0 14 + (n - 1 - x4_74) then (by rw [if_pos hd, if_pos (by omega)]) else (by rw [if_neg hd, if_neg (by omega)]))) (by omega) (by omega)
            have t16 := zx_g14 hσ
            refine zr_sub (pc := 74) hV [some (ZR 0), some (ZL v), none, none, some (ZI (n - 1))] (⟨rfl, rfl, rfl, trivial⟩) ?_
            exact L74 ((n - 1) - (-1) + 1 : Int).toNat (n - 1) σ (by omega) hσ (fun a i _ => rfl) (by omega) (fun j => by rw [if_neg (by omega)]) (by omega) (by omega)
          · show V 66 [some (ZR 0), some (ZL v), none, some (ZI n), some (ZI x4_19)] [] 41 σ
            refine zr_bipush (pc := 66) hV (-3) dX12_type_66 (by decide) ?_
            have t17 := zx_g14 hσ
            exact zr_iret (pc := 68) hV dX12_type_68 rfl rfl ⟨_, rfl, ⟨by decide, by decide⟩, hσ, (fun a i _ => rfl), trivial, (show zu_ty (σ 10) (σ 10) (σ 0 14) (σ 0 14) v n ((-3) : Int) from ⟨fun h => absurd zok h, fun _ => ⟨fun _ => ⟨by omega, rfl, fun _ => rfl⟩, fun h => absurd h (by omega)⟩⟩)⟩
        · show V 24 [some (ZR 0), some (ZL v), none, some (ZI n), some (ZI x4_19)] [] 41 σ
          refine zr_lload_n (pc := 24) hV dX12_type_24 rfl rfl ?_
          refine zr_bipush (pc := 25) hV 8 dX12_type_25 (by decide) ?_
          refine zr_iload (pc := 27) hV dX12_type_27 rfl ?_
          refine zr_imul (pc := 29) hV dX12_type_29 ?_
          refine zr_lshr (pc := 30) hV dX12_type_30 ?_
          have t18 := zq_lshr_in v (8 * x4_19)
          refine zr_ldc2 (pc := 31) (v := 255) hV 255 dX12_type_31 kX12_191 (by decide) ?_
          refine zr_land (pc := 34) hV dX12_type_34 ?_
          have t19 := zq_landL_in (zq_lshr v (8 * x4_19)) 255
          refine zr_ldc2 (pc := 35) (v := 32) hV 32 dX12_type_35 kX12_193 (by decide) ?_
          refine zr_ldc2 (pc := 38) (v := 126) hV 126 dX12_type_38 kX12_195 (by decide) ?_
          refine zr_callSp (pc := 41) hV [ZL (zq_landL (zq_lshr v (8 * x4_19)) 255), ZL 32, ZL 126] (st := []) (c_X12_in (σ := σ) (zq_landL (zq_lshr v (8 * x4_19)) 255) 32 126 (by omega) (by omega) (by omega)) dX12_type_41 mX12_170 (by decide) (Nat.le_of_ble_eq_true rfl) (Nat.le_refl _) (fun r41 hr41 pr41 => ?_)
          have zb : zu_by v x4_19 = zq_landL (zq_lshr v (8 * x4_19)) 255 := rfl
          refine zr_if_ne (pc := 44) hV 49 dX12_type_44 (by decide) (by omega) (fun c20 => ?_) (fun c20 => ?_)
          · show V 49 [some (ZR 0), some (ZL v), none, some (ZI n), some (ZI x4_19)] [] 41 σ
            refine zr_iinc (pc := 49) hV [some (ZR 0), some (ZL v), none, some (ZI n), some (ZI (x4_19 + (-1)))] (x4_19 + (-1)) dX12_type_49 rfl rfl (by decide) rfl rfl ?_
            refine zr_goto (pc := 52) hV 19 dX12_type_52 (by decide) ?_
            exact ih19 (x4_19 + (-1)) (by omega) (fun i h0 h1 => if hc : i = x4_19 then (by rw [hc]; omega) else hi19_0 i (by omega) h1) (by omega) (by omega)
          · show V 47 [some (ZR 0), some (ZL v), none, some (ZI n), some (ZI x4_19)] [] 41 σ
            refine zr_iconst (pc := 47) hV (-1) dX12_type_47 rfl ?_
            have t21 := zx_g14 hσ
            exact zr_iret (pc := 48) hV dX12_type_48 rfl rfl ⟨_, rfl, ⟨by decide, by decide⟩, hσ, (fun a i _ => rfl), trivial, (show zu_ty (σ 10) (σ 10) (σ 0 14) (σ 0 14) v n ((-1) : Int) from ⟨fun _ => ⟨by omega, rfl, fun _ => rfl⟩, fun h => absurd (h.2.2 x4_19 (by omega) (by omega)) (by omega)⟩)⟩
    exact L19 ((n - 1) - (-1) + 1 : Int).toNat (n - 1) (by omega) (fun i h0 h1 => absurd h1 (by omega)) (by omega) (by omega)
  · show V 12 [some (ZR 0), some (ZL v), none, some (ZI n), none] [] 41 σ
    refine zr_iconst (pc := 12) hV (-1) dX12_type_12 rfl ?_
    have t22 := zx_g14 hσ
    exact zr_iret (pc := 13) hV dX12_type_13 rfl rfl ⟨_, rfl, ⟨by decide, by decide⟩, hσ, (fun a i _ => rfl), trivial, (show zu_ty (σ 10) (σ 10) (σ 0 14) (σ 0 14) v n ((-1) : Int) from ⟨fun _ => ⟨by omega, rfl, fun _ => rfl⟩, fun h => absurd (And.intro h.1 h.2.1) (by omega)⟩)⟩
set_option maxHeartbeats 800000 in
theorem c_X12_clearStepper2 {σ : zq_S} (hσ : zx_T σ)  : zq_C zx_w yX12_clearStepper cX12_clearStepper 2 (none) 0 0 41 41 [ZR 0] σ (zq_pv (fun τ => zx_T τ ∧ (∀ a i : Int, (¬ (a = 0 ∧ i = 26) ∧ a ≠ 15) → τ a i = σ a i) ∧ (τ 0 26 = 0) ∧ zq_hid ((∀ j, 0 ≤ j → j < 336 → τ 15 j = if 272 ≤ j then (j - 271) % 64 else 0)))) := by
  refine zq_C_of (by decide) (Nat.le_refl _) (Nat.le_of_ble_eq_true rfl) [some (ZR 0), none] rfl (fun V hV => ?_)
  show V 0 [some (ZR 0), none] [] 41 σ
  refine zr_iconst (pc := 0) hV 0 dX12_clearStepper_0 rfl ?_
  refine zr_istore_n (pc := 1) hV [some (ZR 0), some (ZI 0)] dX12_clearStepper_1 rfl (by decide) rfl rfl ?_
  have L2 : ∀ (fuel : Nat) (x1_2 : Int) (σ_2 : zq_S), (0 ≤ x1_2 ∧ x1_2 ≤ 336) → (zx_T σ_2) → (∀ a i : Int, (¬ (a = 0 ∧ i = 26) ∧ a ≠ 15) → σ_2 a i = σ a i) → (zq_hid (∀ j, 0 ≤ j → j < x1_2 → σ_2 15 j = if 272 ≤ j then (j - 271) % 64 else 0)) → 336 - x1_2 < (fuel : Int) → V 2 [some (ZR 0), some (ZI x1_2)] [] 41 σ_2 := by
    intro fuel
    induction fuel with
    | zero =>
      intro x1_2 σ_2 hx1_2 hσ_2 hFσ_2 hi2_0 hm2
      exfalso; omega
    | succ fuel ih =>
      intro x1_2 σ_2 hx1_2 hσ_2 hFσ_2 hi2_0 hm2
      have ih2 := ih
      show V 2 [some (ZR 0), some (ZI x1_2)] [] 41 σ_2
      refine zr_iload_n (pc := 2) hV dX12_clearStepper_2 rfl rfl ?_
      refine zr_sipush (pc := 3) hV 336 dX12_clearStepper_3 (by decide) ?_
      refine zr_icmp_ge (pc := 6) hV 42 dX12_clearStepper_6 (by decide) (by omega) ⟨by decide, by decide⟩ (fun c1 => ?_) (fun c1 => ?_)
      · show V 42 [some (ZR 0), some (ZI x1_2)] [] 41 σ_2
        refine zr_aload_n (pc := 42) hV dX12_clearStepper_42 rfl rfl ?_
        refine zr_iconst (pc := 43) hV 0 dX12_clearStepper_43 rfl ?_
        refine zr_putI (pc := 44) hV 26 dX12_clearStepper_44 fX12_341 rfl rfl rfl rfl (by decide) (fun σ44 eσ44 => ?_)
        have hσ44 : zx_T σ44 := zx_u26 eσ44 hσ_2 (by omega)
        have hFσ44 : ∀ a i : Int, (¬ (a = 0 ∧ i = 26) ∧ a ≠ 15) → σ44 a i = σ a i := fun a i h => by rw [eσ44, zq_up_ne h.1]; exact hFσ_2 a i h
        have t2 := zx_g26 hσ44
        have t3 : σ44 0 26 = 0 := by rw [eσ44]; exact zq_up_same _ _ _ _
        exact zr_vret (pc := 47) hV dX12_clearStepper_47 rfl rfl ⟨rfl, hσ44, hFσ44, (by omega), (show (∀ j, 0 ≤ j → j < 336 → σ44 15 j = if 272 ≤ j then (j - 271) % 64 else 0) from (fun j h0 h1 => by rw [eσ44, zq_up_ne (by omega)]; exact hi2_0 j h0 (by omega)))⟩
      · show V 9 [some (ZR 0), some (ZI x1_2)] [] 41 σ_2
        refine zr_aload_n (pc := 9) hV dX12_clearStepper_9 rfl rfl ?_
        refine zr_getR (pc := 10) hV 24 15 dX12_clearStepper_10 fX12_62 rfl rfl rfl (by decide) (zx_g24 hσ_2) (by omega) ?_
        refine zr_iload_n (pc := 13) hV dX12_clearStepper_13 rfl rfl ?_
        refine zr_iload_n (pc := 14) hV dX12_clearStepper_14 rfl rfl ?_
        refine zr_sipush (pc := 15) hV 272 dX12_clearStepper_15 (by decide) ?_
        refine zr_icmp_lt (pc := 18) hV 34 dX12_clearStepper_18 (by decide) (by omega) ⟨by decide, by decide⟩ (fun c4 => ?_) (fun c4 => ?_)
        · show V 34 [some (ZR 0), some (ZI x1_2)] [ZI x1_2, ZR 15] 41 σ_2
          refine zr_iconst (pc := 34) hV 0 dX12_clearStepper_34 rfl ?_
          show V 35 [some (ZR 0), some (ZI x1_2)] [ZI 0, ZI x1_2, ZR 15] 41 σ_2
          refine zr_iast (pc := 35) hV dX12_clearStepper_35 rfl (by decide) rfl (by omega) (fun σ35 eσ35 => ?_)
          have hσ35 : zx_T σ35 := zx_ua15 eσ35 hσ_2 (by omega)
          have hFσ35 : ∀ a i : Int, (¬ (a = 0 ∧ i = 26) ∧ a ≠ 15) → σ35 a i = σ a i := fun a i h => by rw [eσ35, zq_up_ne (fun q => h.2 q.1)]; exact hFσ_2 a i h
          refine zr_iinc (pc := 36) hV [some (ZR 0), some (ZI (x1_2 + 1))] (x1_2 + 1) dX12_clearStepper_36 rfl rfl (by decide) rfl rfl ?_
          refine zr_goto (pc := 39) hV 2 dX12_clearStepper_39 (by decide) ?_
          exact ih2 (x1_2 + 1) σ35 (by omega) hσ35 hFσ35 (fun j h0 h1 => if hc : j = x1_2 then (by rw [hc, eσ35, zq_up_same]; first | (rw [if_pos (by omega)]; omega) | (rw [if_neg (by omega)])) else (by rw [eσ35, zq_up_ne (by omega)]; exact hi2_0 j h0 (by omega))) (by omega)
        · show V 21 [some (ZR 0), some (ZI x1_2)] [ZI x1_2, ZR 15] 41 σ_2
          refine zr_iload_n (pc := 21) hV dX12_clearStepper_21 rfl rfl ?_
          refine zr_sipush (pc := 22) hV 272 dX12_clearStepper_22 (by decide) ?_
          refine zr_isub (pc := 25) hV dX12_clearStepper_25 ?_
          refine zr_iconst (pc := 26) hV 1 dX12_clearStepper_26 rfl ?_
          refine zr_iadd (pc := 27) hV dX12_clearStepper_27 ?_
          refine zr_bipush (pc := 28) hV 64 dX12_clearStepper_28 (by decide) ?_
          refine zr_irem (pc := 30) hV dX12_clearStepper_30 ⟨by decide, by decide⟩ (by omega) ?_
          have t5 := zq_rem_c (x := (x1_2 - 272) + 1) 64 (by decide) (by omega)
          refine zr_goto (pc := 31) hV 35 dX12_clearStepper_31 (by decide) ?_
          show V 35 [some (ZR 0), some (ZI x1_2)] [ZI (zq_rem ((x1_2 - 272) + 1) 64), ZI x1_2, ZR 15] 41 σ_2
          refine zr_iast (pc := 35) hV dX12_clearStepper_35 rfl (by decide) rfl (by omega) (fun σ35 eσ35 => ?_)
          have hσ35 : zx_T σ35 := zx_ua15 eσ35 hσ_2 (by omega)
          have hFσ35 : ∀ a i : Int, (¬ (a = 0 ∧ i = 26) ∧ a ≠ 15) → σ35 a i = σ a i := fun a i h => by rw [eσ35, zq_up_ne (fun q => h.2 q.1)]; exact hFσ_2 a i h
          refine zr_iinc (pc := 36) hV [some (ZR 0), some (ZI (x1_2 + 1))] (x1_2 + 1) dX12_clearStepper_36 rfl rfl (by decide) rfl rfl ?_
          refine zr_goto (pc := 39) hV 2 dX12_clearStepper_39 (by decide) ?_
          exact ih2 (x1_2 + 1) σ35 (by omega) hσ35 hFσ35 (fun j h0 h1 => if hc : j = x1_2 then (by rw [hc, eσ35, zq_up_same]; first | (rw [if_pos (by omega)]; omega) | (rw [if_neg (by omega)])) else (by rw [eσ35, zq_up_ne (by omega)]; exact hi2_0 j h0 (by omega))) (by omega)
  exact L2 (336 - (0 : Int) + 1 : Int).toNat 0 σ (by omega) hσ (fun a i _ => rfl) (fun j h0 h1 => absurd h1 (by omega)) (by omega)
set_option maxHeartbeats 800000 in
theorem c_X12_restart4 {σ : zq_S} (hσ : zx_T σ)  : zq_C zx_w yX12_restart cX12_restart 2 (none) 1 21 41 41 [ZR 0] σ (zq_pv (fun τ => zx_T τ ∧ (∀ a i : Int, (¬ (a = 0 ∧ i = 18) ∧ ¬ (a = 0 ∧ i = 26) ∧ ¬ (a = 0 ∧ i = 29) ∧ ¬ (a = 0 ∧ i = 3) ∧ ¬ (a = 0 ∧ i = 30) ∧ ¬ (a = 0 ∧ i = 35) ∧ ¬ (a = 0 ∧ i = 36) ∧ a ≠ 14 ∧ a ≠ 15) → τ a i = σ a i) ∧ (zx_M τ ∧ zx_O τ ∧ zx_K τ ∧ τ 0 3 = 0 ∧ τ 0 18 = -4 ∧ τ 0 29 = 2 ∧ τ 0 35 = 1 ∧ τ 0 36 = 0 ∧ τ 0 26 = 0 ∧ τ 0 30 = 0) ∧ zq_hid ((∀ j, 0 ≤ j → j < 336 → τ 15 j = if 272 ≤ j then (j - 271) % 64 else 0) ∧ (∀ j, 0 ≤ j → j < 64 → τ 14 j = 0)))) := by
  refine zq_C_of (by decide) (Nat.le_refl _) (Nat.le_of_ble_eq_true rfl) [some (ZR 0), none] rfl (fun V hV => ?_)
  show V 0 [some (ZR 0), none] [] 41 σ
  refine zr_aload_n (pc := 0) hV dX12_restart_0 rfl rfl ?_
  refine zr_iconst (pc := 1) hV 0 dX12_restart_1 rfl ?_
  refine zr_putI (pc := 2) hV 3 dX12_restart_2 fX12_150 rfl rfl rfl rfl (by decide) (fun σ2 eσ2 => ?_)
  have hσ2 : zx_T σ2 := zx_u3 eσ2 hσ (by omega)
  have hFσ2 : ∀ a i : Int, (¬ (a = 0 ∧ i = 18) ∧ ¬ (a = 0 ∧ i = 26) ∧ ¬ (a = 0 ∧ i = 29) ∧ ¬ (a = 0 ∧ i = 3) ∧ ¬ (a = 0 ∧ i = 30) ∧ ¬ (a = 0 ∧ i = 35) ∧ ¬ (a = 0 ∧ i = 36) ∧ a ≠ 14 ∧ a ≠ 15) → σ2 a i = σ a i := fun a i h => by rw [eσ2, zq_up_ne h.2.2.2.1]
  refine zr_aload_n (pc := 5) hV dX12_restart_5 rfl rfl ?_
  refine zr_iconst (pc := 6) hV 0 dX12_restart_6 rfl ?_
  refine zr_putZ (pc := 7) hV 30 dX12_restart_7 fX12_153 rfl rfl rfl (by omega) rfl (by decide) (fun σ7 eσ7 => ?_)
  have hσ7 : zx_T σ7 := zx_u30 eσ7 hσ2 (by omega)
  have hFσ7 : ∀ a i : Int, (¬ (a = 0 ∧ i = 18) ∧ ¬ (a = 0 ∧ i = 26) ∧ ¬ (a = 0 ∧ i = 29) ∧ ¬ (a = 0 ∧ i = 3) ∧ ¬ (a = 0 ∧ i = 30) ∧ ¬ (a = 0 ∧ i = 35) ∧ ¬ (a = 0 ∧ i = 36) ∧ a ≠ 14 ∧ a ≠ 15) → σ7 a i = σ a i := fun a i h => by rw [eσ7, zq_up_ne h.2.2.2.2.1]; exact hFσ2 a i h
  refine zr_aload_n (pc := 10) hV dX12_restart_10 rfl rfl ?_
  refine zr_bipush (pc := 11) hV (-4) dX12_restart_11 (by decide) ?_
  refine zr_putI (pc := 13) hV 18 dX12_restart_13 fX12_157 rfl rfl rfl rfl (by decide) (fun σ13 eσ13 => ?_)
  have hσ13 : zx_T σ13 := zx_u18 eσ13 hσ7 (by omega)
  have hFσ13 : ∀ a i : Int, (¬ (a = 0 ∧ i = 18) ∧ ¬ (a = 0 ∧ i = 26) ∧ ¬ (a = 0 ∧ i = 29) ∧ ¬ (a = 0 ∧ i = 3) ∧ ¬ (a = 0 ∧ i = 30) ∧ ¬ (a = 0 ∧ i = 35) ∧ ¬ (a = 0 ∧ i = 36) ∧ a ≠ 14 ∧ a ≠ 15) → σ13 a i = σ a i := fun a i h => by rw [eσ13, zq_up_ne h.1]; exact hFσ7 a i h
  refine zr_aload_n (pc := 16) hV dX12_restart_16 rfl rfl ?_
  refine zr_iconst (pc := 17) hV 1 dX12_restart_17 rfl ?_
  refine zr_putI (pc := 18) hV 35 dX12_restart_18 fX12_84 rfl rfl rfl rfl (by decide) (fun σ18 eσ18 => ?_)
  have hσ18 : zx_T σ18 := zx_u35 eσ18 hσ13 (by omega)
  have hFσ18 : ∀ a i : Int, (¬ (a = 0 ∧ i = 18) ∧ ¬ (a = 0 ∧ i = 26) ∧ ¬ (a = 0 ∧ i = 29) ∧ ¬ (a = 0 ∧ i = 3) ∧ ¬ (a = 0 ∧ i = 30) ∧ ¬ (a = 0 ∧ i = 35) ∧ ¬ (a = 0 ∧ i = 36) ∧ a ≠ 14 ∧ a ≠ 15) → σ18 a i = σ a i := fun a i h => by rw [eσ18, zq_up_ne h.2.2.2.2.2.1]; exact hFσ13 a i h
  refine zr_aload_n (pc := 21) hV dX12_restart_21 rfl rfl ?_
  refine zr_iconst (pc := 22) hV 0 dX12_restart_22 rfl ?_
  refine zr_putZ (pc := 23) hV 36 dX12_restart_23 fX12_160 rfl rfl rfl (by omega) rfl (by decide) (fun σ23 eσ23 => ?_)
  have hσ23 : zx_T σ23 := zx_u36 eσ23 hσ18 (by omega)
  have hFσ23 : ∀ a i : Int, (¬ (a = 0 ∧ i = 18) ∧ ¬ (a = 0 ∧ i = 26) ∧ ¬ (a = 0 ∧ i = 29) ∧ ¬ (a = 0 ∧ i = 3) ∧ ¬ (a = 0 ∧ i = 30) ∧ ¬ (a = 0 ∧ i = 35) ∧ ¬ (a = 0 ∧ i = 36) ∧ a ≠ 14 ∧ a ≠ 15) → σ23 a i = σ a i := fun a i h => by rw [eσ23, zq_up_ne h.2.2.2.2.2.2.1]; exact hFσ18 a i h
  refine zr_aload_n (pc := 26) hV dX12_restart_26 rfl rfl ?_
  refine zr_iconst (pc := 27) hV 2 dX12_restart_27 rfl ?_
  refine zr_putI (pc := 28) hV 29 dX12_restart_28 fX12_72 rfl rfl rfl rfl (by decide) (fun σ28 eσ28 => ?_)
  have hσ28 : zx_T σ28 := zx_u29 eσ28 hσ23 (by omega)
  have hFσ28 : ∀ a i : Int, (¬ (a = 0 ∧ i = 18) ∧ ¬ (a = 0 ∧ i = 26) ∧ ¬ (a = 0 ∧ i = 29) ∧ ¬ (a = 0 ∧ i = 3) ∧ ¬ (a = 0 ∧ i = 30) ∧ ¬ (a = 0 ∧ i = 35) ∧ ¬ (a = 0 ∧ i = 36) ∧ a ≠ 14 ∧ a ≠ 15) → σ28 a i = σ a i := fun a i h => by rw [eσ28, zq_up_ne h.2.2.1]; exact hFσ23 a i h
  refine zr_iconst (pc := 31) hV 0 dX12_restart_31 rfl ?_
  refine zr_istore_n (pc := 32) hV [some (ZR 0), some (ZI 0)] dX12_restart_32 rfl (by decide) rfl rfl ?_
  have L33 : ∀ (fuel : Nat) (x1_33 : Int) (σ_33 : zq_S), (0 ≤ x1_33 ∧ x1_33 ≤ 64) → (zx_T σ_33) → (∀ a i : Int, (¬ (a = 0 ∧ i = 18) ∧ ¬ (a = 0 ∧ i = 26) ∧ ¬ (a = 0 ∧ i = 29) ∧ ¬ (a = 0 ∧ i = 3) ∧ ¬ (a = 0 ∧ i = 30) ∧ ¬ (a = 0 ∧ i = 35) ∧ ¬ (a = 0 ∧ i = 36) ∧ a ≠ 14 ∧ a ≠ 15) → σ_33 a i = σ a i) → (∀ p, 0 ≤ p → p < x1_33 → σ_33 14 p = 0) → (σ_33 0 3 = 0) → (σ_33 0 30 = 0) → (σ_33 0 36 = 0) → (σ_33 0 29 = 2) → (σ_33 0 35 = 1) → (σ_33 0 18 = -4) → 64 - x1_33 < (fuel : Int) → V 33 [some (ZR 0), some (ZI x1_33)] [] 41 σ_33 := by
    intro fuel
    induction fuel with
    | zero =>
      intro x1_33 σ_33 hx1_33 hσ_33 hFσ_33 hi33_0 hi33_1 hi33_2 hi33_3 hi33_4 hi33_5 hi33_6 hm33
      exfalso; omega
    | succ fuel ih =>
      intro x1_33 σ_33 hx1_33 hσ_33 hFσ_33 hi33_0 hi33_1 hi33_2 hi33_3 hi33_4 hi33_5 hi33_6 hm33
      have ih33 := ih
      show V 33 [some (ZR 0), some (ZI x1_33)] [] 41 σ_33
      refine zr_iload_n (pc := 33) hV dX12_restart_33 rfl rfl ?_
      refine zr_bipush (pc := 34) hV 64 dX12_restart_34 (by decide) ?_
      refine zr_icmp_ge (pc := 36) hV 52 dX12_restart_36 (by decide) (by omega) ⟨by decide, by decide⟩ (fun c1 => ?_) (fun c1 => ?_)
      · show V 52 [some (ZR 0), some (ZI x1_33)] [] 41 σ_33
        refine zr_aload_n (pc := 52) hV dX12_restart_52 rfl rfl ?_
        refine zr_callVv (pc := 53) hV [] (st := []) (c_X12_clearStepper2 (σ := σ_33) hσ_33 ) dX12_restart_53 mX12_163 rfl (by decide) (by decide) (Nat.le_of_ble_eq_true rfl) (Nat.le_refl _) (fun σ53 pσ53 => ?_)
        obtain ⟨hσ53, hfσ53, pσ53, wσ53⟩ := pσ53
        have hFσ53 : ∀ a i : Int, (¬ (a = 0 ∧ i = 18) ∧ ¬ (a = 0 ∧ i = 26) ∧ ¬ (a = 0 ∧ i = 29) ∧ ¬ (a = 0 ∧ i = 3) ∧ ¬ (a = 0 ∧ i = 30) ∧ ¬ (a = 0 ∧ i = 35) ∧ ¬ (a = 0 ∧ i = 36) ∧ a ≠ 14 ∧ a ≠ 15) → σ53 a i = σ a i := fun a i h => (hfσ53 a i ⟨h.2.1, h.2.2.2.2.2.2.2.2⟩).trans (hFσ_33 a i h)
        have t2 := zx_g26 hσ53
        have y3 := hfσ53 0 3 (by omega)
        have y30 := hfσ53 0 30 (by omega)
        have y36 := hfσ53 0 36 (by omega)
        have y29 := hfσ53 0 29 (by omega)
        have y35 := hfσ53 0 35 (by omega)
        have t3 := zx_g18 hσ53
        have t4 : σ53 0 18 = σ_33 0 18 := hfσ53 _ _ (by omega)
        have t5 := zx_g26 hσ53
        have t6 := zx_g29 hσ53
        have t7 : σ53 0 29 = σ_33 0 29 := hfσ53 _ _ (by omega)
        have t8 := zx_g3 hσ53
        have t9 : σ53 0 3 = σ_33 0 3 := hfσ53 _ _ (by omega)
        have t10 := zx_g30 hσ53
        have t11 : σ53 0 30 = σ_33 0 30 := hfσ53 _ _ (by omega)
        have t12 := zx_g35 hσ53
        have t13 : σ53 0 35 = σ_33 0 35 := hfσ53 _ _ (by omega)
        have t14 := zx_g36 hσ53
        have t15 : σ53 0 36 = σ_33 0 36 := hfσ53 _ _ (by omega)
        exact zr_vret (pc := 56) hV dX12_restart_56 rfl rfl ⟨rfl, hσ53, hFσ53, ⟨zx_M_0 (by omega), fun o h1 h2 => absurd h2 (by omega), fun p h1 h2 => (by rw [hfσ53 14 p (by omega), hi33_0 p h1 (by omega)]; have := zx_p2_pos (σ53 0 2); omega), by omega, by omega, by omega, by omega, by omega, by omega, by omega⟩, (show (∀ j, 0 ≤ j → j < 336 → σ53 15 j = if 272 ≤ j then (j - 271) % 64 else 0) ∧ (∀ j, 0 ≤ j → j < 64 → σ53 14 j = 0) from ⟨wσ53, fun j h0 h1 => by rw [hfσ53 14 j (by omega)]; exact hi33_0 j h0 (by omega)⟩)⟩
      · show V 39 [some (ZR 0), some (ZI x1_33)] [] 41 σ_33
        refine zr_aload_n (pc := 39) hV dX12_restart_39 rfl rfl ?_
        refine zr_getR (pc := 40) hV 23 14 dX12_restart_40 fX12_59 rfl rfl rfl (by decide) (zx_g23 hσ_33) (by omega) ?_
        refine zr_iload_n (pc := 43) hV dX12_restart_43 rfl rfl ?_
        refine zr_iconst (pc := 44) hV 0 dX12_restart_44 rfl ?_
        refine zr_iast (pc := 45) hV dX12_restart_45 rfl (by decide) rfl (by omega) (fun σ45 eσ45 => ?_)
        have hσ45 : zx_T σ45 := zx_ua14 eσ45 hσ_33 (by omega)
        have hFσ45 : ∀ a i : Int, (¬ (a = 0 ∧ i = 18) ∧ ¬ (a = 0 ∧ i = 26) ∧ ¬ (a = 0 ∧ i = 29) ∧ ¬ (a = 0 ∧ i = 3) ∧ ¬ (a = 0 ∧ i = 30) ∧ ¬ (a = 0 ∧ i = 35) ∧ ¬ (a = 0 ∧ i = 36) ∧ a ≠ 14 ∧ a ≠ 15) → σ45 a i = σ a i := fun a i h => by rw [eσ45, zq_up_ne (fun q => h.2.2.2.2.2.2.2.1 q.1)]; exact hFσ_33 a i h
        refine zr_iinc (pc := 46) hV [some (ZR 0), some (ZI (x1_33 + 1))] (x1_33 + 1) dX12_restart_46 rfl rfl (by decide) rfl rfl ?_
        refine zr_goto (pc := 49) hV 33 dX12_restart_49 (by decide) ?_
        have t16 := zx_g3 hσ45
        have t17 : σ45 0 3 = σ_33 0 3 := by rw [eσ45]; exact zq_up_ne (by omega)
        have t18 := zx_g30 hσ45
        have t19 : σ45 0 30 = σ_33 0 30 := by rw [eσ45]; exact zq_up_ne (by omega)
        have t20 := zx_g36 hσ45
        have t21 : σ45 0 36 = σ_33 0 36 := by rw [eσ45]; exact zq_up_ne (by omega)
        have t22 := zx_g29 hσ45
        have t23 : σ45 0 29 = σ_33 0 29 := by rw [eσ45]; exact zq_up_ne (by omega)
        have t24 := zx_g35 hσ45
        have t25 : σ45 0 35 = σ_33 0 35 := by rw [eσ45]; exact zq_up_ne (by omega)
        have t26 := zx_g18 hσ45
        have t27 : σ45 0 18 = σ_33 0 18 := by rw [eσ45]; exact zq_up_ne (by omega)
        exact ih33 (x1_33 + 1) σ45 (by omega) hσ45 hFσ45 (fun p h1 h2 => if hc : p = x1_33 then (by rw [hc, eσ45, zq_up_same]) else (by rw [eσ45, zq_up_ne (by omega)]; exact hi33_0 p h1 (by omega))) (by omega) (by omega) (by omega) (by omega) (by omega) (by omega) (by omega)
  have t28 := zx_g3 hσ28
  have t29 : σ28 0 3 = σ23 0 3 := by rw [eσ28]; exact zq_up_ne (by omega)
  have t30 : σ23 0 3 = σ18 0 3 := by rw [eσ23]; exact zq_up_ne (by omega)
  have t31 : σ18 0 3 = σ13 0 3 := by rw [eσ18]; exact zq_up_ne (by omega)
  have t32 : σ13 0 3 = σ7 0 3 := by rw [eσ13]; exact zq_up_ne (by omega)
  have t33 : σ7 0 3 = σ2 0 3 := by rw [eσ7]; exact zq_up_ne (by omega)
  have t34 : σ2 0 3 = 0 := by rw [eσ2]; exact zq_up_same _ _ _ _
  have t35 := zx_g30 hσ28
  have t36 : σ28 0 30 = σ23 0 30 := by rw [eσ28]; exact zq_up_ne (by omega)
  have t37 : σ23 0 30 = σ18 0 30 := by rw [eσ23]; exact zq_up_ne (by omega)
  have t38 : σ18 0 30 = σ13 0 30 := by rw [eσ18]; exact zq_up_ne (by omega)
  have t39 : σ13 0 30 = σ7 0 30 := by rw [eσ13]; exact zq_up_ne (by omega)
  have t40 : σ7 0 30 = 0 := by rw [eσ7]; exact zq_up_same _ _ _ _
  have t41 := zx_g36 hσ28
  have t42 : σ28 0 36 = σ23 0 36 := by rw [eσ28]; exact zq_up_ne (by omega)
  have t43 : σ23 0 36 = 0 := by rw [eσ23]; exact zq_up_same _ _ _ _
  have t44 := zx_g29 hσ28
  have t45 : σ28 0 29 = 2 := by rw [eσ28]; exact zq_up_same _ _ _ _
  have t46 := zx_g35 hσ28
  have t47 : σ28 0 35 = σ23 0 35 := by rw [eσ28]; exact zq_up_ne (by omega)
  have t48 : σ23 0 35 = σ18 0 35 := by rw [eσ23]; exact zq_up_ne (by omega)
  have t49 : σ18 0 35 = 1 := by rw [eσ18]; exact zq_up_same _ _ _ _
  have t50 := zx_g18 hσ28
  have t51 : σ28 0 18 = σ23 0 18 := by rw [eσ28]; exact zq_up_ne (by omega)
  have t52 : σ23 0 18 = σ18 0 18 := by rw [eσ23]; exact zq_up_ne (by omega)
  have t53 : σ18 0 18 = σ13 0 18 := by rw [eσ18]; exact zq_up_ne (by omega)
  have t54 : σ13 0 18 = (-4) := by rw [eσ13]; exact zq_up_same _ _ _ _
  exact L33 (64 - (0 : Int) + 1 : Int).toNat 0 σ28 (by omega) hσ28 hFσ28 (fun p h1 h2 => absurd h2 (by omega)) (by omega) (by omega) (by omega) (by omega) (by omega) (by omega) (by omega)
set_option maxHeartbeats 800000 in
theorem c_X12_begin4 {σ : zq_S} (hσ : zx_T σ) (w0 k0 b0 : Int) (q0 : zq_in w0) (q1 : zq_in k0) (q2 : zq_in b0) (Mσ : zx_M σ) (Oσ : zx_O σ) (Kσ : zx_K σ) (Uσ : zx_U σ) (Tσ : zx_TK σ) (Wσ : zx_W σ) : zq_C zx_w yX12_begin cX12_begin 4 (some .int) 2 42 41 41 [ZR 0, ZI w0, ZI k0, ZI b0] σ (zq_pi (fun r τ => zx_T τ ∧ (∀ a i : Int, (¬ (a = 0 ∧ i = 0) ∧ ¬ (a = 0 ∧ i = 1) ∧ ¬ (a = 0 ∧ i = 18) ∧ ¬ (a = 0 ∧ i = 2) ∧ ¬ (a = 0 ∧ i = 26) ∧ ¬ (a = 0 ∧ i = 29) ∧ ¬ (a = 0 ∧ i = 3) ∧ ¬ (a = 0 ∧ i = 30) ∧ ¬ (a = 0 ∧ i = 35) ∧ ¬ (a = 0 ∧ i = 36) ∧ a ≠ 14 ∧ a ≠ 15) → τ a i = σ a i) ∧ ((2 ≤ w0 ∧ w0 ≤ 8 ∧ 1 ≤ k0 ∧ k0 ≤ 3 ∧ 6 ≤ b0 ∧ b0 ≤ 12 → r = 1 ∧ τ 0 0 = w0 ∧ τ 0 1 = k0 ∧ τ 0 2 = b0 ∧ τ 0 3 = 0 ∧ τ 0 18 = -4 ∧ τ 0 29 = 2 ∧ τ 0 35 = 1 ∧ τ 0 36 = 0 ∧ τ 0 26 = 0 ∧ τ 0 30 = 0) ∧ (¬ (2 ≤ w0 ∧ w0 ≤ 8 ∧ 1 ≤ k0 ∧ k0 ≤ 3 ∧ 6 ≤ b0 ∧ b0 ≤ 12) → r = -1)) ∧ zq_hid ((2 ≤ w0 ∧ w0 ≤ 8 ∧ 1 ≤ k0 ∧ k0 ≤ 3 ∧ 6 ≤ b0 ∧ b0 ≤ 12 → (∀ j, 0 ≤ j → j < 336 → τ 15 j = if 272 ≤ j then (j - 271) % 64 else 0) ∧ (∀ j, 0 ≤ j → j < 64 → τ 14 j = 0)) ∧ (¬ (2 ≤ w0 ∧ w0 ≤ 8 ∧ 1 ≤ k0 ∧ k0 ≤ 3 ∧ 6 ≤ b0 ∧ b0 ≤ 12) → ∀ x i, τ x i = σ x i)) ∧ zx_M τ ∧ zx_O τ ∧ zx_K τ ∧ zx_U τ ∧ zx_TK τ ∧ zx_W τ)) := by
  refine zq_C_of (by decide) (Nat.le_refl _) (Nat.le_of_ble_eq_true rfl) [some (ZR 0), some (ZI w0), some (ZI k0), some (ZI b0)] rfl (fun V hV => ?_)
  show V 0 [some (ZR 0), some (ZI w0), some (ZI k0), some (ZI b0)] [] 41 σ
  refine zr_iload_n (pc := 0) hV dX12_begin_0 rfl rfl ?_
  refine zr_i2l (pc := 1) hV dX12_begin_1 (by omega) ?_
  refine zr_ldc2 (pc := 2) (v := 2) hV 2 dX12_begin_2 kX12_166 (by decide) ?_
  refine zr_ldc2 (pc := 5) (v := 8) hV 8 dX12_begin_5 kX12_168 (by decide) ?_
  refine zr_callSp (pc := 8) hV [ZL w0, ZL 2, ZL 8] (st := []) (c_X12_in (σ := σ) w0 2 8 (by omega) (by omega) (by omega)) dX12_begin_8 mX12_170 (by decide) (Nat.le_of_ble_eq_true rfl) (Nat.le_refl _) (fun r8 hr8 pr8 => ?_)
  refine zr_if_eq (pc := 11) hV 40 dX12_begin_11 (by decide) (by omega) (fun c1 => ?_) (fun c1 => ?_)
  · show V 40 [some (ZR 0), some (ZI w0), some (ZI k0), some (ZI b0)] [] 41 σ
    refine zr_iconst (pc := 40) hV (-1) dX12_begin_40 rfl ?_
    have t2 := zx_g0 hσ
    have t3 := zx_g1 hσ
    have t4 := zx_g18 hσ
    have t5 := zx_g2 hσ
    have t6 := zx_g26 hσ
    have t7 := zx_g29 hσ
    have t8 := zx_g3 hσ
    have t9 := zx_g30 hσ
    have t10 := zx_g35 hσ
    have t11 := zx_g36 hσ
    exact zr_iret (pc := 41) hV dX12_begin_41 rfl rfl ⟨_, rfl, ⟨by decide, by decide⟩, hσ, (fun a i _ => rfl), (by omega), (show (2 ≤ w0 ∧ w0 ≤ 8 ∧ 1 ≤ k0 ∧ k0 ≤ 3 ∧ 6 ≤ b0 ∧ b0 ≤ 12 → (∀ j, 0 ≤ j → j < 336 → σ 15 j = if 272 ≤ j then (j - 271) % 64 else 0) ∧ (∀ j, 0 ≤ j → j < 64 → σ 14 j = 0)) ∧ (¬ (2 ≤ w0 ∧ w0 ≤ 8 ∧ 1 ≤ k0 ∧ k0 ≤ 3 ∧ 6 ≤ b0 ∧ b0 ≤ 12) → ∀ x i, σ x i = σ x i) from ⟨fun h => absurd h (by omega), fun _ _ _ => rfl⟩), Mσ, Oσ, Kσ, Uσ, Tσ, Wσ⟩
  · show V 14 [some (ZR 0), some (ZI w0), some (ZI k0), some (ZI b0)] [] 41 σ
    refine zr_iload_n (pc := 14) hV dX12_begin_14 rfl rfl ?_
    refine zr_i2l (pc := 15) hV dX12_begin_15 (by omega) ?_
    refine zr_lconst (pc := 16) hV 1 dX12_begin_16 (by decide) ?_
    refine zr_ldc2 (pc := 17) (v := 3) hV 3 dX12_begin_17 kX12_174 (by decide) ?_
    refine zr_callSp (pc := 20) hV [ZL k0, ZL 1, ZL 3] (st := []) (c_X12_in (σ := σ) k0 1 3 (by omega) (by omega) (by omega)) dX12_begin_20 mX12_170 (by decide) (Nat.le_of_ble_eq_true rfl) (Nat.le_refl _) (fun r20 hr20 pr20 => ?_)
    refine zr_if_eq (pc := 23) hV 40 dX12_begin_23 (by decide) (by omega) (fun c12 => ?_) (fun c12 => ?_)
    · show V 40 [some (ZR 0), some (ZI w0), some (ZI k0), some (ZI b0)] [] 41 σ
      refine zr_iconst (pc := 40) hV (-1) dX12_begin_40 rfl ?_
      have t13 := zx_g0 hσ
      have t14 := zx_g1 hσ
      have t15 := zx_g18 hσ
      have t16 := zx_g2 hσ
      have t17 := zx_g26 hσ
      have t18 := zx_g29 hσ
      have t19 := zx_g3 hσ
      have t20 := zx_g30 hσ
      have t21 := zx_g35 hσ
      have t22 := zx_g36 hσ
      exact zr_iret (pc := 41) hV dX12_begin_41 rfl rfl ⟨_, rfl, ⟨by decide, by decide⟩, hσ, (fun a i _ => rfl), (by omega), (show (2 ≤ w0 ∧ w0 ≤ 8 ∧ 1 ≤ k0 ∧ k0 ≤ 3 ∧ 6 ≤ b0 ∧ b0 ≤ 12 → (∀ j, 0 ≤ j → j < 336 → σ 15 j = if 272 ≤ j then (j - 271) % 64 else 0) ∧ (∀ j, 0 ≤ j → j < 64 → σ 14 j = 0)) ∧ (¬ (2 ≤ w0 ∧ w0 ≤ 8 ∧ 1 ≤ k0 ∧ k0 ≤ 3 ∧ 6 ≤ b0 ∧ b0 ≤ 12) → ∀ x i, σ x i = σ x i) from ⟨fun h => absurd h (by omega), fun _ _ _ => rfl⟩), Mσ, Oσ, Kσ, Uσ, Tσ, Wσ⟩
    · show V 26 [some (ZR 0), some (ZI w0), some (ZI k0), some (ZI b0)] [] 41 σ
      refine zr_iload_n (pc := 26) hV dX12_begin_26 rfl rfl ?_
      refine zr_i2l (pc := 27) hV dX12_begin_27 (by omega) ?_
      refine zr_ldc2 (pc := 28) (v := 6) hV 6 dX12_begin_28 kX12_176 (by decide) ?_
      refine zr_ldc2 (pc := 31) (v := 12) hV 12 dX12_begin_31 kX12_178 (by decide) ?_
      refine zr_callSp (pc := 34) hV [ZL b0, ZL 6, ZL 12] (st := []) (c_X12_in (σ := σ) b0 6 12 (by omega) (by omega) (by omega)) dX12_begin_34 mX12_170 (by decide) (Nat.le_of_ble_eq_true rfl) (Nat.le_refl _) (fun r34 hr34 pr34 => ?_)
      refine zr_if_ne (pc := 37) hV 42 dX12_begin_37 (by decide) (by omega) (fun c23 => ?_) (fun c23 => ?_)
      · show V 42 [some (ZR 0), some (ZI w0), some (ZI k0), some (ZI b0)] [] 41 σ
        refine zr_aload_n (pc := 42) hV dX12_begin_42 rfl rfl ?_
        refine zr_iload_n (pc := 43) hV dX12_begin_43 rfl rfl ?_
        refine zr_putI (pc := 44) hV 0 dX12_begin_44 fX12_7 rfl rfl rfl rfl (by decide) (fun σ44 eσ44 => ?_)
        have hσ44 : zx_T σ44 := zx_u0 eσ44 hσ (by omega)
        have hFσ44 : ∀ a i : Int, (¬ (a = 0 ∧ i = 0) ∧ ¬ (a = 0 ∧ i = 1) ∧ ¬ (a = 0 ∧ i = 18) ∧ ¬ (a = 0 ∧ i = 2) ∧ ¬ (a = 0 ∧ i = 26) ∧ ¬ (a = 0 ∧ i = 29) ∧ ¬ (a = 0 ∧ i = 3) ∧ ¬ (a = 0 ∧ i = 30) ∧ ¬ (a = 0 ∧ i = 35) ∧ ¬ (a = 0 ∧ i = 36) ∧ a ≠ 14 ∧ a ≠ 15) → σ44 a i = σ a i := fun a i h => by rw [eσ44, zq_up_ne h.1]
        have Mσ44 : zx_M σ44 := zx_M_fr (fun i => by rw [eσ44]; exact zq_up_ne (by omega)) (by rw [eσ44]; exact zq_up_ne (by omega)) (by rw [eσ44]; exact zq_up_ne (by omega)) (by rw [eσ44]; exact zq_up_ne (by omega)) Mσ
        have Oσ44 : zx_O σ44 := zx_O_fr (fun i => by rw [eσ44]; exact zq_up_ne (by omega)) (fun i => by rw [eσ44]; exact zq_up_ne (by omega)) (fun i => by rw [eσ44]; exact zq_up_ne (by omega)) (by rw [eσ44]; exact zq_up_ne (by omega)) (by rw [eσ44]; exact zq_up_ne (by omega)) Oσ
        have Kσ44 : zx_K σ44 := zx_K_fr (fun i => by rw [eσ44]; exact zq_up_ne (by omega)) (by rw [eσ44]; exact zq_up_ne (by omega)) Kσ
        have Uσ44 : zx_U σ44 := zx_U_fr (by rw [eσ44]; exact zq_up_ne (by omega)) (by rw [eσ44]; exact zq_up_ne (by omega)) (fun i => by rw [eσ44]; exact zq_up_ne (by omega)) (fun i => by rw [eσ44]; exact zq_up_ne (by omega)) (fun i => by rw [eσ44]; exact zq_up_ne (by omega)) Uσ
        have Tσ44 : zx_TK σ44 := zx_TK_fr (fun i => by rw [eσ44]; exact zq_up_ne (by omega)) (by rw [eσ44]; exact zq_up_ne (by omega)) Tσ
        have Wσ44 : zx_W σ44 := zx_W_fr (fun i => by rw [eσ44]; exact zq_up_ne (by omega)) (by rw [eσ44]; exact zq_up_ne (by omega)) (by rw [eσ44]; exact zq_up_ne (by omega)) (by rw [eσ44]; exact zq_up_ne (by omega)) (fun i => by rw [eσ44]; exact zq_up_ne (by omega)) Wσ
        refine zr_aload_n (pc := 47) hV dX12_begin_47 rfl rfl ?_
        refine zr_iload_n (pc := 48) hV dX12_begin_48 rfl rfl ?_
        refine zr_putI (pc := 49) hV 1 dX12_begin_49 fX12_13 rfl rfl rfl rfl (by decide) (fun σ49 eσ49 => ?_)
        have hσ49 : zx_T σ49 := zx_u1 eσ49 hσ44 (by omega)
        have hFσ49 : ∀ a i : Int, (¬ (a = 0 ∧ i = 0) ∧ ¬ (a = 0 ∧ i = 1) ∧ ¬ (a = 0 ∧ i = 18) ∧ ¬ (a = 0 ∧ i = 2) ∧ ¬ (a = 0 ∧ i = 26) ∧ ¬ (a = 0 ∧ i = 29) ∧ ¬ (a = 0 ∧ i = 3) ∧ ¬ (a = 0 ∧ i = 30) ∧ ¬ (a = 0 ∧ i = 35) ∧ ¬ (a = 0 ∧ i = 36) ∧ a ≠ 14 ∧ a ≠ 15) → σ49 a i = σ a i := fun a i h => by rw [eσ49, zq_up_ne h.2.1]; exact hFσ44 a i h
        have Mσ49 : zx_M σ49 := zx_M_fr (fun i => by rw [eσ49]; exact zq_up_ne (by omega)) (by rw [eσ49]; exact zq_up_ne (by omega)) (by rw [eσ49]; exact zq_up_ne (by omega)) (by rw [eσ49]; exact zq_up_ne (by omega)) Mσ44
        have Oσ49 : zx_O σ49 := zx_O_fr (fun i => by rw [eσ49]; exact zq_up_ne (by omega)) (fun i => by rw [eσ49]; exact zq_up_ne (by omega)) (fun i => by rw [eσ49]; exact zq_up_ne (by omega)) (by rw [eσ49]; exact zq_up_ne (by omega)) (by rw [eσ49]; exact zq_up_ne (by omega)) Oσ44
        have Kσ49 : zx_K σ49 := zx_K_fr (fun i => by rw [eσ49]; exact zq_up_ne (by omega)) (by rw [eσ49]; exact zq_up_ne (by omega)) Kσ44
        have Uσ49 : zx_U σ49 := zx_U_fr (by rw [eσ49]; exact zq_up_ne (by omega)) (by rw [eσ49]; exact zq_up_ne (by omega)) (fun i => by rw [eσ49]; exact zq_up_ne (by omega)) (fun i => by rw [eσ49]; exact zq_up_ne (by omega)) (fun i => by rw [eσ49]; exact zq_up_ne (by omega)) Uσ44
        have Tσ49 : zx_TK σ49 := zx_TK_fr (fun i => by rw [eσ49]; exact zq_up_ne (by omega)) (by rw [eσ49]; exact zq_up_ne (by omega)) Tσ44
        have Wσ49 : zx_W σ49 := zx_W_fr (fun i => by rw [eσ49]; exact zq_up_ne (by omega)) (by rw [eσ49]; exact zq_up_ne (by omega)) (by rw [eσ49]; exact zq_up_ne (by omega)) (by rw [eσ49]; exact zq_up_ne (by omega)) (fun i => by rw [eσ49]; exact zq_up_ne (by omega)) Wσ44
        refine zr_aload_n (pc := 52) hV dX12_begin_52 rfl rfl ?_
        refine zr_iload_n (pc := 53) hV dX12_begin_53 rfl rfl ?_
        refine zr_putI (pc := 54) hV 2 dX12_begin_54 fX12_16 rfl rfl rfl rfl (by decide) (fun σ54 eσ54 => ?_)
        have hσ54 : zx_T σ54 := zx_u2 eσ54 hσ49 (by omega)
        have hFσ54 : ∀ a i : Int, (¬ (a = 0 ∧ i = 0) ∧ ¬ (a = 0 ∧ i = 1) ∧ ¬ (a = 0 ∧ i = 18) ∧ ¬ (a = 0 ∧ i = 2) ∧ ¬ (a = 0 ∧ i = 26) ∧ ¬ (a = 0 ∧ i = 29) ∧ ¬ (a = 0 ∧ i = 3) ∧ ¬ (a = 0 ∧ i = 30) ∧ ¬ (a = 0 ∧ i = 35) ∧ ¬ (a = 0 ∧ i = 36) ∧ a ≠ 14 ∧ a ≠ 15) → σ54 a i = σ a i := fun a i h => by rw [eσ54, zq_up_ne h.2.2.2.1]; exact hFσ49 a i h
        have Uσ54 : zx_U σ54 := zx_U_fr (by rw [eσ54]; exact zq_up_ne (by omega)) (by rw [eσ54]; exact zq_up_ne (by omega)) (fun i => by rw [eσ54]; exact zq_up_ne (by omega)) (fun i => by rw [eσ54]; exact zq_up_ne (by omega)) (fun i => by rw [eσ54]; exact zq_up_ne (by omega)) Uσ49
        have Tσ54 : zx_TK σ54 := zx_TK_fr (fun i => by rw [eσ54]; exact zq_up_ne (by omega)) (by rw [eσ54]; exact zq_up_ne (by omega)) Tσ49
        refine zr_aload_n (pc := 57) hV dX12_begin_57 rfl rfl ?_
        refine zr_callVv (pc := 58) hV [] (st := []) (c_X12_restart4 (σ := σ54) hσ54 ) dX12_begin_58 mX12_147 rfl (by decide) (by decide) (Nat.le_of_ble_eq_true rfl) (Nat.le_refl _) (fun σ58 pσ58 => ?_)
        obtain ⟨hσ58, hfσ58, pσ58, wσ58⟩ := pσ58
        have Mσ58 : zx_M σ58 := pσ58.1
        have Oσ58 : zx_O σ58 := pσ58.2.1
        have Kσ58 : zx_K σ58 := pσ58.2.2.1
        have Uσ58 : zx_U σ58 := zx_U_0 pσ58.2.2.2.2.2.2.2.1
        have Tσ58 : zx_TK σ58 := zx_TK_0 pσ58.2.2.2.1
        have Wσ58 : zx_W σ58 := zx_W_0 pσ58.2.2.2.2.2.2.2.2.2
        have hFσ58 : ∀ a i : Int, (¬ (a = 0 ∧ i = 0) ∧ ¬ (a = 0 ∧ i = 1) ∧ ¬ (a = 0 ∧ i = 18) ∧ ¬ (a = 0 ∧ i = 2) ∧ ¬ (a = 0 ∧ i = 26) ∧ ¬ (a = 0 ∧ i = 29) ∧ ¬ (a = 0 ∧ i = 3) ∧ ¬ (a = 0 ∧ i = 30) ∧ ¬ (a = 0 ∧ i = 35) ∧ ¬ (a = 0 ∧ i = 36) ∧ a ≠ 14 ∧ a ≠ 15) → σ58 a i = σ a i := fun a i h => (hfσ58 a i ⟨h.2.2.1, h.2.2.2.2.1, h.2.2.2.2.2.1, h.2.2.2.2.2.2.1, h.2.2.2.2.2.2.2.1, h.2.2.2.2.2.2.2.2.1, h.2.2.2.2.2.2.2.2.2.1, h.2.2.2.2.2.2.2.2.2.2.1, h.2.2.2.2.2.2.2.2.2.2.2⟩).trans (hFσ54 a i h)
        have t24 := zx_g18 hσ58
        have t25 := zx_g26 hσ58
        have t26 := zx_g29 hσ58
        have t27 := zx_g3 hσ58
        have t28 := zx_g30 hσ58
        have t29 := zx_g35 hσ58
        have t30 := zx_g36 hσ58
        refine zr_iconst (pc := 61) hV 1 dX12_begin_61 rfl ?_
        have t31 := zx_g0 hσ58
        have t32 : σ58 0 0 = σ54 0 0 := hfσ58 _ _ (by omega)
        have t33 : σ54 0 0 = σ49 0 0 := by rw [eσ54]; exact zq_up_ne (by omega)
        have t34 : σ49 0 0 = σ44 0 0 := by rw [eσ49]; exact zq_up_ne (by omega)
        have t35 : σ44 0 0 = w0 := by rw [eσ44]; exact zq_up_same _ _ _ _
        have t36 := zx_g1 hσ58
        have t37 : σ58 0 1 = σ54 0 1 := hfσ58 _ _ (by omega)
        have t38 : σ54 0 1 = σ49 0 1 := by rw [eσ54]; exact zq_up_ne (by omega)
        have t39 : σ49 0 1 = k0 := by rw [eσ49]; exact zq_up_same _ _ _ _
        have t40 := zx_g18 hσ58
        have t41 := zx_g2 hσ58
        have t42 : σ58 0 2 = σ54 0 2 := hfσ58 _ _ (by omega)
        have t43 : σ54 0 2 = b0 := by rw [eσ54]; exact zq_up_same _ _ _ _
        have t44 := zx_g26 hσ58
        have t45 := zx_g29 hσ58
        have t46 := zx_g3 hσ58
        have t47 := zx_g30 hσ58
        have t48 := zx_g35 hσ58
        have t49 := zx_g36 hσ58
        exact zr_iret (pc := 62) hV dX12_begin_62 rfl rfl ⟨_, rfl, ⟨by decide, by decide⟩, hσ58, hFσ58, (by omega), (show (2 ≤ w0 ∧ w0 ≤ 8 ∧ 1 ≤ k0 ∧ k0 ≤ 3 ∧ 6 ≤ b0 ∧ b0 ≤ 12 → (∀ j, 0 ≤ j → j < 336 → σ58 15 j = if 272 ≤ j then (j - 271) % 64 else 0) ∧ (∀ j, 0 ≤ j → j < 64 → σ58 14 j = 0)) ∧ (¬ (2 ≤ w0 ∧ w0 ≤ 8 ∧ 1 ≤ k0 ∧ k0 ≤ 3 ∧ 6 ≤ b0 ∧ b0 ≤ 12) → ∀ x i, σ58 x i = σ x i) from ⟨fun _ => wσ58, fun h => absurd (by omega) h⟩), Mσ58, Oσ58, Kσ58, Uσ58, Tσ58, Wσ58⟩
      · show V 40 [some (ZR 0), some (ZI w0), some (ZI k0), some (ZI b0)] [] 41 σ
        refine zr_iconst (pc := 40) hV (-1) dX12_begin_40 rfl ?_
        have t50 := zx_g0 hσ
        have t51 := zx_g1 hσ
        have t52 := zx_g18 hσ
        have t53 := zx_g2 hσ
        have t54 := zx_g26 hσ
        have t55 := zx_g29 hσ
        have t56 := zx_g3 hσ
        have t57 := zx_g30 hσ
        have t58 := zx_g35 hσ
        have t59 := zx_g36 hσ
        exact zr_iret (pc := 41) hV dX12_begin_41 rfl rfl ⟨_, rfl, ⟨by decide, by decide⟩, hσ, (fun a i _ => rfl), (by omega), (show (2 ≤ w0 ∧ w0 ≤ 8 ∧ 1 ≤ k0 ∧ k0 ≤ 3 ∧ 6 ≤ b0 ∧ b0 ≤ 12 → (∀ j, 0 ≤ j → j < 336 → σ 15 j = if 272 ≤ j then (j - 271) % 64 else 0) ∧ (∀ j, 0 ≤ j → j < 64 → σ 14 j = 0)) ∧ (¬ (2 ≤ w0 ∧ w0 ≤ 8 ∧ 1 ≤ k0 ∧ k0 ≤ 3 ∧ 6 ≤ b0 ∧ b0 ≤ 12) → ∀ x i, σ x i = σ x i) from ⟨fun h => absurd h (by omega), fun _ _ _ => rfl⟩), Mσ, Oσ, Kσ, Uσ, Tσ, Wσ⟩
