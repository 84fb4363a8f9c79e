set_option maxHeartbeats 800000 in
theorem c_X12_readAct2 {σ : zq_S} (hσ : zx_T σ) (o n : Int) (q0 : 0 ≤ o ∧ o ≤ 20) (q1 : 0 ≤ n ∧ n ≤ 2) : zq_C zx_w yX12_readAct cX12_readAct 9 (some .boolean) 4 92 41 41 [ZR 0, ZI o, ZI n] σ (zq_pi (fun r τ => zx_T τ ∧ (∀ a i : Int, (¬ (a = 0 ∧ i = 15) ∧ ¬ (a = 0 ∧ i = 17) ∧ ¬ (a = 6 ∧ 18 * o + 6 * n ≤ i ∧ i < 18 * o + 6 * n + 6)) → τ a i = σ a i) ∧ (0 ≤ r ∧ r ≤ 1 ∧ r = zt_acR (zt_Hr σ o) (σ 10) (σ 0 14) (σ 0 15) ∧ τ 0 15 = zt_acA (zt_Hr σ o) (σ 10) (σ 0 14) (σ 0 15)) ∧ zq_hid (r = 1 → zt_rac τ (18 * o + 6 * n) (zt_Hr σ o) (σ 10) (σ 0 14) (σ 0 15)))) := by
  refine zq_C_of (by decide) (Nat.le_refl _) (Nat.le_of_ble_eq_true rfl) [some (ZR 0), some (ZI o), some (ZI n), none, none, none, none, none, none] rfl (fun V hV => ?_)
  have z14 := zx_g14 hσ
  show V 0 [some (ZR 0), some (ZI o), some (ZI n), none, none, none, none, none, none] [] 41 σ
  refine zr_bipush (pc := 0) hV 18 dX12_readAct_0 (by decide) ?_
  refine zr_iload_n (pc := 2) hV dX12_readAct_2 rfl rfl ?_
  refine zr_imul (pc := 3) hV dX12_readAct_3 ?_
  refine zr_bipush (pc := 4) hV 6 dX12_readAct_4 (by decide) ?_
  refine zr_iload_n (pc := 6) hV dX12_readAct_6 rfl rfl ?_
  refine zr_imul (pc := 7) hV dX12_readAct_7 ?_
  refine zr_iadd (pc := 8) hV dX12_readAct_8 ?_
  refine zr_istore_n (pc := 9) hV [some (ZR 0), some (ZI o), some (ZI n), some (ZI ((18 * o) + (6 * n))), none, none, none, none, none] dX12_readAct_9 rfl (by decide) rfl rfl ?_
  refine zr_aload_n (pc := 10) hV dX12_readAct_10 rfl rfl ?_
  refine zr_iload_n (pc := 11) hV dX12_readAct_11 rfl rfl ?_
  refine zr_iconst (pc := 12) hV 1 dX12_readAct_12 rfl ?_
  refine zr_callVi (pc := 13) hV [ZI o, ZI 1] (st := []) (c_X12_readNamedT (σ := σ) hσ o 1 (by omega) (by omega)) dX12_readAct_13 mX12_241 rfl (by decide) (by decide) (Nat.le_of_ble_eq_true rfl) (Nat.le_refl _) (fun r13 σ13 hr13 pσ13 => ?_)
  obtain ⟨hσ13, hfσ13, pσ13⟩ := pσ13
  have hFσ13 : ∀ a i : Int, (¬ (a = 0 ∧ i = 15) ∧ ¬ (a = 0 ∧ i = 17) ∧ ¬ (a = 6 ∧ 18 * o + 6 * n ≤ i ∧ i < 18 * o + 6 * n + 6)) → σ13 a i = σ a i := fun a i h => (hfσ13 a i ⟨h.1, h.2.1⟩)
  have t1 := zx_g14 hσ
  have t2 := zx_g15 hσ
  have t3 := zx_g15 hσ13
  refine zr_istore (pc := 16) hV [some (ZR 0), some (ZI o), some (ZI n), some (ZI ((18 * o) + (6 * n))), some (ZI r13), none, none, none, none] dX12_readAct_16 (by decide) rfl rfl ?_
  refine zr_iload (pc := 18) hV dX12_readAct_18 rfl ?_
  refine zr_if_lt (pc := 20) hV 32 dX12_readAct_20 (by decide) (by omega) (fun c4 => ?_) (fun c4 => ?_)
  · show V 32 [some (ZR 0), some (ZI o), some (ZI n), some (ZI ((18 * o) + (6 * n))), some (ZI r13), none, none, none, none] [] 41 σ13
    refine zr_iconst (pc := 32) hV 0 dX12_readAct_32 rfl ?_
    have t5 := zx_g15 hσ13
    exact zr_zret (pc := 33) hV dX12_readAct_33 rfl rfl (by omega) ⟨_, rfl, ⟨by decide, by decide⟩, hσ13, hFσ13, ⟨by omega, by omega, (by unfold zt_acR; repeat (first | rw [if_pos (by omega)] | rw [if_neg (by omega)]); all_goals omega), (by unfold zt_acA; repeat (first | rw [if_pos (by omega)] | rw [if_neg (by omega)]); all_goals omega)⟩, (show (0 : Int) = 1 → zt_rac σ13 (18 * o + 6 * n) (zt_Hr σ o) (σ 10) (σ 0 14) (σ 0 15) from (fun h => absurd h (by omega)))⟩
  · show V 23 [some (ZR 0), some (ZI o), some (ZI n), some (ZI ((18 * o) + (6 * n))), some (ZI r13), none, none, none, none] [] 41 σ13
    refine zr_aload_n (pc := 23) hV dX12_readAct_23 rfl rfl ?_
    refine zr_bipush (pc := 24) hV 61 dX12_readAct_24 (by decide) ?_
    refine zr_callVi (pc := 26) hV [ZI 61] (st := []) (c_X12_takes2 (σ := σ13) hσ13 61 (by omega)) dX12_readAct_26 mX12_234 rfl (by decide) (by decide) (Nat.le_of_ble_eq_true rfl) (Nat.le_refl _) (fun r26 σ26 hr26 pσ26 => ?_)
    obtain ⟨hσ26, hfσ26, pσ26⟩ := pσ26
    have hFσ26 : ∀ a i : Int, (¬ (a = 0 ∧ i = 15) ∧ ¬ (a = 0 ∧ i = 17) ∧ ¬ (a = 6 ∧ 18 * o + 6 * n ≤ i ∧ i < 18 * o + 6 * n + 6)) → σ26 a i = σ a i := fun a i h => (hfσ26 a i h.1).trans (hFσ13 a i h)
    have t6 := zx_g14 hσ13
    have t7 : σ13 0 14 = σ 0 14 := hfσ13 _ _ (by omega)
    have t8 := zx_g15 hσ13
    have Tσ13 : σ13 10 = σ 10 := funext (fun i => hFσ13 10 i (by omega))
    have Nσ13 : σ13 0 14 = σ 0 14 := hFσ13 0 14 (by omega)
    rw [Tσ13, Nσ13] at pσ26
    have t9 := zx_g15 hσ26
    rw [show σ13 0 15 = zt_tgA (zt_Hr σ o) (σ 10) (σ 0 14) (σ 0 15) by omega] at pσ26
    refine zr_if_ne (pc := 29) hV 34 dX12_readAct_29 (by decide) (by omega) (fun c10 => ?_) (fun c10 => ?_)
    · show V 34 [some (ZR 0), some (ZI o), some (ZI n), some (ZI ((18 * o) + (6 * n))), some (ZI r13), none, none, none, none] [] 41 σ26
      have zy := zt_tk_y (t := σ 10) (n := σ 0 14) (c := 61) (a := zt_tgA (zt_Hr σ o) (σ 10) (σ 0 14) (σ 0 15)) (by omega)
      have za2 : σ26 0 15 = zt_a2 (zt_Hr σ o) (σ 10) (σ 0 14) (σ 0 15) := by unfold zt_a2; omega
      refine zr_aload_n (pc := 34) hV dX12_readAct_34 rfl rfl ?_
      refine zr_iload_n (pc := 35) hV dX12_readAct_35 rfl rfl ?_
      refine zr_iconst (pc := 36) hV 0 dX12_readAct_36 rfl ?_
      refine zr_callVi (pc := 37) hV [ZI o, ZI 0] (st := []) (c_X12_readNamedO (σ := σ26) hσ26 o 0 (by omega) (by omega)) dX12_readAct_37 mX12_241 rfl (by decide) (by decide) (Nat.le_of_ble_eq_true rfl) (Nat.le_refl _) (fun r37 σ37 hr37 pσ37 => ?_)
      obtain ⟨hσ37, hfσ37, pσ37⟩ := pσ37
      have hFσ37 : ∀ a i : Int, (¬ (a = 0 ∧ i = 15) ∧ ¬ (a = 0 ∧ i = 17) ∧ ¬ (a = 6 ∧ 18 * o + 6 * n ≤ i ∧ i < 18 * o + 6 * n + 6)) → σ37 a i = σ a i := fun a i h => (hfσ37 a i ⟨h.1, h.2.1⟩).trans (hFσ26 a i h)
      have t11 := zx_g14 hσ26
      have t12 : σ26 0 14 = σ13 0 14 := hfσ26 _ _ (by omega)
      have t13 : σ13 0 14 = σ 0 14 := hfσ13 _ _ (by omega)
      have t14 := zx_g15 hσ26
      have Tσ26 : σ26 10 = σ 10 := funext (fun i => hFσ26 10 i (by omega))
      have Nσ26 : σ26 0 14 = σ 0 14 := hFσ26 0 14 (by omega)
      have Hσ26 : zt_Hr σ26 o = zt_Hr σ o := zt_Hr_fr (fun i => hFσ26 2 i (by omega)) (hFσ26 0 2 (by omega))
      rw [Tσ26, Nσ26, Hσ26] at pσ37
      have t15 := zx_g15 hσ37
      have t16 := zx_g17 hσ37
      rw [za2] at pσ37
      have zL : r37 = zt_rc (zt_acL (zt_Hr σ o) (σ 10) (σ 0 14) (σ 0 15)) := pσ37.2.2.1
      have zA : σ37 0 15 = (zt_a3 (zt_Hr σ o) (σ 10) (σ 0 14) (σ 0 15)) := pσ37.2.2.2.1
      have zu : 0 ≤ r37 → σ37 0 17 = zt_ru (zt_acL (zt_Hr σ o) (σ 10) (σ 0 14) (σ 0 15)) := pσ37.2.2.2.2
      have rb1 := zt_rc_b (zt_acL (zt_Hr σ o) (σ 10) (σ 0 14) (σ 0 15))
      have ob1 : -1 ≤ zt_acL (zt_Hr σ o) (σ 10) (σ 0 14) (σ 0 15) ∧ zt_acL (zt_Hr σ o) (σ 10) (σ 0 14) (σ 0 15) ≤ 271 := zt_opR_b (zt_Hr σ o) (σ 10) (σ 0 14) (zt_a2 (zt_Hr σ o) (σ 10) (σ 0 14) (σ 0 15))
      have tb := zt_tgR_b (zt_Hr σ o) (σ 10) (σ 0 14) (σ 0 15)
      refine zr_istore (pc := 40) hV [some (ZR 0), some (ZI o), some (ZI n), some (ZI ((18 * o) + (6 * n))), some (ZI r13), some (ZI r37), none, none, none] dX12_readAct_40 (by decide) rfl rfl ?_
      refine zr_aload_n (pc := 42) hV dX12_readAct_42 rfl rfl ?_
      refine zr_getI (pc := 43) hV 17 dX12_readAct_43 fX12_228 rfl rfl rfl (by decide) ?_
      have t17 := zx_g17 hσ37
      refine zr_istore (pc := 46) hV [some (ZR 0), some (ZI o), some (ZI n), some (ZI ((18 * o) + (6 * n))), some (ZI r13), some (ZI r37), some (ZI (σ37 0 17)), none, none] dX12_readAct_46 (by decide) rfl rfl ?_
      refine zr_iload (pc := 48) hV dX12_readAct_48 rfl ?_
      refine zr_if_ge (pc := 50) hV 55 dX12_readAct_50 (by decide) (by omega) (fun c18 => ?_) (fun c18 => ?_)
      · show V 55 [some (ZR 0), some (ZI o), some (ZI n), some (ZI ((18 * o) + (6 * n))), some (ZI r13), some (ZI r37), some (ZI (σ37 0 17)), none, none] [] 41 σ37
        refine zr_aload_n (pc := 55) hV dX12_readAct_55 rfl rfl ?_
        refine zr_callVi (pc := 56) hV [] (st := []) (c_X12_next2 (σ := σ37) hσ37 ) dX12_readAct_56 mX12_203 rfl (by decide) (by decide) (Nat.le_of_ble_eq_true rfl) (Nat.le_refl _) (fun r56 σ56 hr56 pσ56 => ?_)
        obtain ⟨hσ56, hfσ56, pσ56⟩ := pσ56
        have hFσ56 : ∀ a i : Int, (¬ (a = 0 ∧ i = 15) ∧ ¬ (a = 0 ∧ i = 17) ∧ ¬ (a = 6 ∧ 18 * o + 6 * n ≤ i ∧ i < 18 * o + 6 * n + 6)) → σ56 a i = σ a i := fun a i h => (hfσ56 a i h.1).trans (hFσ37 a i h)
        have t19 := zx_g14 hσ37
        have t20 : σ37 0 14 = σ26 0 14 := hfσ37 _ _ (by omega)
        have t21 : σ26 0 14 = σ13 0 14 := hfσ26 _ _ (by omega)
        have t22 : σ13 0 14 = σ 0 14 := hfσ13 _ _ (by omega)
        have t23 := zx_g15 hσ37
        have Tσ37 : σ37 10 = σ 10 := funext (fun i => hFσ37 10 i (by omega))
        have Nσ37 : σ37 0 14 = σ 0 14 := hFσ37 0 14 (by omega)
        rw [Tσ37, Nσ37] at pσ56
        have t24 := zx_g15 hσ56
        rw [zA] at pσ56
        refine zr_callSp (pc := 59) hV [ZI r56] (st := []) (c_X12_signOf2 (σ := σ56) r56 (by omega)) dX12_readAct_59 mX12_245 (by decide) (Nat.le_of_ble_eq_true rfl) (Nat.le_refl _) (fun r59 hr59 pr59 => ?_)
        have zs : r59 = zt_sn (zt_nx (σ 10) (σ 0 14) (zt_a3 (zt_Hr σ o) (σ 10) (σ 0 14) (σ 0 15))) := by rw [← pσ56.2]; exact pr59.2.2
        have zsb := zt_sn_b (zt_nx (σ 10) (σ 0 14) (zt_a3 (zt_Hr σ o) (σ 10) (σ 0 14) (σ 0 15)))
        refine zr_istore (pc := 62) hV [some (ZR 0), some (ZI o), some (ZI n), some (ZI ((18 * o) + (6 * n))), some (ZI r13), some (ZI r37), some (ZI (σ37 0 17)), some (ZI r59), none] dX12_readAct_62 (by decide) rfl rfl ?_
        refine zr_aload_n (pc := 64) hV dX12_readAct_64 rfl rfl ?_
        refine zr_dup (pc := 65) hV dX12_readAct_65 (fun _ => rfl) ?_
        refine zr_getI (pc := 66) hV 15 dX12_readAct_66 fX12_200 rfl rfl rfl (by decide) ?_
        have t25 := zx_g15 hσ56
        refine zr_iload (pc := 69) hV dX12_readAct_69 rfl ?_
        refine zr_if_le (pc := 71) hV 78 dX12_readAct_71 (by decide) (by omega) (fun c26 => ?_) (fun c26 => ?_)
        · show V 78 [some (ZR 0), some (ZI o), some (ZI n), some (ZI ((18 * o) + (6 * n))), some (ZI r13), some (ZI r37), some (ZI (σ37 0 17)), some (ZI r59), none] [ZI (σ56 0 15), ZR 0] 41 σ56
          refine zr_iconst (pc := 78) hV 0 dX12_readAct_78 rfl ?_
          show V 79 [some (ZR 0), some (ZI o), some (ZI n), some (ZI ((18 * o) + (6 * n))), some (ZI r13), some (ZI r37), some (ZI (σ37 0 17)), some (ZI r59), none] [ZI 0, ZI (σ56 0 15), ZR 0] 41 σ56
          refine zr_iadd (pc := 79) hV dX12_readAct_79 ?_
          refine zr_putI (pc := 80) hV 15 dX12_readAct_80 fX12_200 rfl rfl rfl rfl (by decide) (fun σ80 eσ80 => ?_)
          have hσ80 : zx_T σ80 := zx_u15 eσ80 hσ56 (by omega)
          have hFσ80 : ∀ a i : Int, (¬ (a = 0 ∧ i = 15) ∧ ¬ (a = 0 ∧ i = 17) ∧ ¬ (a = 6 ∧ 18 * o + 6 * n ≤ i ∧ i < 18 * o + 6 * n + 6)) → σ80 a i = σ a i := fun a i h => by rw [eσ80, zq_up_ne h.1]; exact hFσ56 a i h
          refine zr_iload (pc := 83) hV dX12_readAct_83 rfl ?_
          refine zr_if_le (pc := 85) hV 97 dX12_readAct_85 (by decide) (by omega) (fun c27 => ?_) (fun c27 => ?_)
          · show V 97 [some (ZR 0), some (ZI o), some (ZI n), some (ZI ((18 * o) + (6 * n))), some (ZI r13), some (ZI r37), some (ZI (σ37 0 17)), some (ZI r59), none] [] 41 σ80
            have zV0 : zt_acV (zt_Hr σ o) (σ 10) (σ 0 14) (σ 0 15) = 0 := by unfold zt_acV; rw [if_pos (by omega)]
            refine zr_iconst (pc := 97) hV 0 dX12_readAct_97 rfl ?_
            show V 98 [some (ZR 0), some (ZI o), some (ZI n), some (ZI ((18 * o) + (6 * n))), some (ZI r13), some (ZI r37), some (ZI (σ37 0 17)), some (ZI r59), none] [ZI 0] 41 σ80
            refine zr_istore (pc := 98) hV [some (ZR 0), some (ZI o), some (ZI n), some (ZI ((18 * o) + (6 * n))), some (ZI r13), some (ZI r37), some (ZI (σ37 0 17)), some (ZI r59), some (ZI 0)] dX12_readAct_98 (by decide) rfl rfl ?_
            refine zr_aload_n (pc := 100) hV dX12_readAct_100 rfl rfl ?_
            refine zr_getR (pc := 101) hV 9 6 dX12_readAct_101 fX12_35 rfl rfl rfl (by decide) (zx_g9 hσ80) (by omega) ?_
            refine zr_iload_n (pc := 104) hV dX12_readAct_104 rfl rfl ?_
            refine zr_iload (pc := 105) hV dX12_readAct_105 rfl ?_
            refine zr_iast (pc := 107) hV dX12_readAct_107 rfl (by decide) rfl (by omega) (fun σ107 eσ107 => ?_)
            have hσ107 : zx_T σ107 := zx_ua6 eσ107 hσ80 (by omega)
            have hFσ107 : ∀ a i : Int, (¬ (a = 0 ∧ i = 15) ∧ ¬ (a = 0 ∧ i = 17) ∧ ¬ (a = 6 ∧ 18 * o + 6 * n ≤ i ∧ i < 18 * o + 6 * n + 6)) → σ107 a i = σ a i := fun a i h => by rw [eσ107, zq_up_ne (fun q => h.2.2 ⟨q.1, by omega⟩)]; exact hFσ80 a i h
            refine zr_aload_n (pc := 108) hV dX12_readAct_108 rfl rfl ?_
            refine zr_getR (pc := 109) hV 9 6 dX12_readAct_109 fX12_35 rfl rfl rfl (by decide) (zx_g9 hσ107) (by omega) ?_
            refine zr_iload_n (pc := 112) hV dX12_readAct_112 rfl rfl ?_
            refine zr_iconst (pc := 113) hV 1 dX12_readAct_113 rfl ?_
            refine zr_iadd (pc := 114) hV dX12_readAct_114 ?_
            refine zr_iload (pc := 115) hV dX12_readAct_115 rfl ?_
            refine zr_iast (pc := 117) hV dX12_readAct_117 rfl (by decide) rfl (by omega) (fun σ117 eσ117 => ?_)
            have hσ117 : zx_T σ117 := zx_ua6 eσ117 hσ107 (by omega)
            have hFσ117 : ∀ a i : Int, (¬ (a = 0 ∧ i = 15) ∧ ¬ (a = 0 ∧ i = 17) ∧ ¬ (a = 6 ∧ 18 * o + 6 * n ≤ i ∧ i < 18 * o + 6 * n + 6)) → σ117 a i = σ a i := fun a i h => by rw [eσ117, zq_up_ne (fun q => h.2.2 ⟨q.1, by omega⟩)]; exact hFσ107 a i h
            refine zr_aload_n (pc := 118) hV dX12_readAct_118 rfl rfl ?_
            refine zr_getR (pc := 119) hV 9 6 dX12_readAct_119 fX12_35 rfl rfl rfl (by decide) (zx_g9 hσ117) (by omega) ?_
            refine zr_iload_n (pc := 122) hV dX12_readAct_122 rfl rfl ?_
            refine zr_iconst (pc := 123) hV 2 dX12_readAct_123 rfl ?_
            refine zr_iadd (pc := 124) hV dX12_readAct_124 ?_
            refine zr_iload (pc := 125) hV dX12_readAct_125 rfl ?_
            refine zr_iast (pc := 127) hV dX12_readAct_127 rfl (by decide) rfl (by omega) (fun σ127 eσ127 => ?_)
            have hσ127 : zx_T σ127 := zx_ua6 eσ127 hσ117 (by omega)
            have hFσ127 : ∀ a i : Int, (¬ (a = 0 ∧ i = 15) ∧ ¬ (a = 0 ∧ i = 17) ∧ ¬ (a = 6 ∧ 18 * o + 6 * n ≤ i ∧ i < 18 * o + 6 * n + 6)) → σ127 a i = σ a i := fun a i h => by rw [eσ127, zq_up_ne (fun q => h.2.2 ⟨q.1, by omega⟩)]; exact hFσ117 a i h
            refine zr_aload_n (pc := 128) hV dX12_readAct_128 rfl rfl ?_
            refine zr_getR (pc := 129) hV 9 6 dX12_readAct_129 fX12_35 rfl rfl rfl (by decide) (zx_g9 hσ127) (by omega) ?_
            refine zr_iload_n (pc := 132) hV dX12_readAct_132 rfl rfl ?_
            refine zr_iconst (pc := 133) hV 3 dX12_readAct_133 rfl ?_
            refine zr_iadd (pc := 134) hV dX12_readAct_134 ?_
            refine zr_iload (pc := 135) hV dX12_readAct_135 rfl ?_
            refine zr_iast (pc := 137) hV dX12_readAct_137 rfl (by decide) rfl (by omega) (fun σ137 eσ137 => ?_)
            have hσ137 : zx_T σ137 := zx_ua6 eσ137 hσ127 (by omega)
            have hFσ137 : ∀ a i : Int, (¬ (a = 0 ∧ i = 15) ∧ ¬ (a = 0 ∧ i = 17) ∧ ¬ (a = 6 ∧ 18 * o + 6 * n ≤ i ∧ i < 18 * o + 6 * n + 6)) → σ137 a i = σ a i := fun a i h => by rw [eσ137, zq_up_ne (fun q => h.2.2 ⟨q.1, by omega⟩)]; exact hFσ127 a i h
            refine zr_aload_n (pc := 138) hV dX12_readAct_138 rfl rfl ?_
            refine zr_getR (pc := 139) hV 9 6 dX12_readAct_139 fX12_35 rfl rfl rfl (by decide) (zx_g9 hσ137) (by omega) ?_
            refine zr_iload_n (pc := 142) hV dX12_readAct_142 rfl rfl ?_
            refine zr_iconst (pc := 143) hV 4 dX12_readAct_143 rfl ?_
            refine zr_iadd (pc := 144) hV dX12_readAct_144 ?_
            refine zr_iload (pc := 145) hV dX12_readAct_145 rfl ?_
            refine zr_iast (pc := 147) hV dX12_readAct_147 rfl (by decide) rfl (by omega) (fun σ147 eσ147 => ?_)
            have hσ147 : zx_T σ147 := zx_ua6 eσ147 hσ137 (by omega)
            have hFσ147 : ∀ a i : Int, (¬ (a = 0 ∧ i = 15) ∧ ¬ (a = 0 ∧ i = 17) ∧ ¬ (a = 6 ∧ 18 * o + 6 * n ≤ i ∧ i < 18 * o + 6 * n + 6)) → σ147 a i = σ a i := fun a i h => by rw [eσ147, zq_up_ne (fun q => h.2.2 ⟨q.1, by omega⟩)]; exact hFσ137 a i h
            refine zr_aload_n (pc := 148) hV dX12_readAct_148 rfl rfl ?_
            refine zr_getR (pc := 149) hV 9 6 dX12_readAct_149 fX12_35 rfl rfl rfl (by decide) (zx_g9 hσ147) (by omega) ?_
            refine zr_iload_n (pc := 152) hV dX12_readAct_152 rfl rfl ?_
            refine zr_iconst (pc := 153) hV 5 dX12_readAct_153 rfl ?_
            refine zr_iadd (pc := 154) hV dX12_readAct_154 ?_
            refine zr_iload (pc := 155) hV dX12_readAct_155 rfl ?_
            refine zr_if_le (pc := 157) hV 167 dX12_readAct_157 (by decide) (by omega) (fun c28 => ?_) (fun c28 => ?_)
            · show V 167 [some (ZR 0), some (ZI o), some (ZI n), some (ZI ((18 * o) + (6 * n))), some (ZI r13), some (ZI r37), some (ZI (σ37 0 17)), some (ZI r59), some (ZI 0)] [ZI (((18 * o) + (6 * n)) + 5), ZR 6] 41 σ147
              refine zr_iconst (pc := 167) hV 0 dX12_readAct_167 rfl ?_
              show V 168 [some (ZR 0), some (ZI o), some (ZI n), some (ZI ((18 * o) + (6 * n))), some (ZI r13), some (ZI r37), some (ZI (σ37 0 17)), some (ZI r59), some (ZI 0)] [ZI 0, ZI (((18 * o) + (6 * n)) + 5), ZR 6] 41 σ147
              refine zr_iast (pc := 168) hV dX12_readAct_168 rfl (by decide) rfl (by omega) (fun σ168 eσ168 => ?_)
              have hσ168 : zx_T σ168 := zx_ua6 eσ168 hσ147 (by omega)
              have hFσ168 : ∀ a i : Int, (¬ (a = 0 ∧ i = 15) ∧ ¬ (a = 0 ∧ i = 17) ∧ ¬ (a = 6 ∧ 18 * o + 6 * n ≤ i ∧ i < 18 * o + 6 * n + 6)) → σ168 a i = σ a i := fun a i h => by rw [eσ168, zq_up_ne (fun q => h.2.2 ⟨q.1, by omega⟩)]; exact hFσ147 a i h
              refine zr_iload (pc := 169) hV dX12_readAct_169 rfl ?_
              refine zr_if_lt (pc := 171) hV 178 dX12_readAct_171 (by decide) ⟨by decide, by decide⟩ (fun c29 => ?_) (fun c29 => ?_)
              · exfalso; omega
              · show V 174 [some (ZR 0), some (ZI o), some (ZI n), some (ZI ((18 * o) + (6 * n))), some (ZI r13), some (ZI r37), some (ZI (σ37 0 17)), some (ZI r59), some (ZI 0)] [] 41 σ168
                refine zr_iconst (pc := 174) hV 1 dX12_readAct_174 rfl ?_
                refine zr_goto (pc := 175) hV 179 dX12_readAct_175 (by decide) ?_
                show V 179 [some (ZR 0), some (ZI o), some (ZI n), some (ZI ((18 * o) + (6 * n))), some (ZI r13), some (ZI r37), some (ZI (σ37 0 17)), some (ZI r59), some (ZI 0)] [ZI 1] 41 σ168
                have t30 := zx_g15 hσ168
                have t31 : σ168 0 15 = σ147 0 15 := by rw [eσ168]; exact zq_up_ne (by omega)
                have t32 : σ147 0 15 = σ137 0 15 := by rw [eσ147]; exact zq_up_ne (by omega)
                have t33 : σ137 0 15 = σ127 0 15 := by rw [eσ137]; exact zq_up_ne (by omega)
                have t34 : σ127 0 15 = σ117 0 15 := by rw [eσ127]; exact zq_up_ne (by omega)
                have t35 : σ117 0 15 = σ107 0 15 := by rw [eσ117]; exact zq_up_ne (by omega)
                have t36 : σ107 0 15 = σ80 0 15 := by rw [eσ107]; exact zq_up_ne (by omega)
                have t37 : σ80 0 15 = (σ56 0 15) + 0 := by rw [eσ80]; exact zq_up_same _ _ _ _
                exact zr_zret (pc := 179) hV dX12_readAct_179 rfl rfl (by omega) ⟨_, rfl, ⟨by decide, by decide⟩, hσ168, hFσ168, ⟨by omega, by omega, (by unfold zt_acR; repeat (first | rw [if_pos (by omega)] | rw [if_neg (by omega)]); all_goals omega), (by unfold zt_acA; repeat (first | rw [if_pos (by omega)] | rw [if_neg (by omega)]); all_goals omega)⟩, (show (1 : Int) = 1 → zt_rac σ168 (18 * o + 6 * n) (zt_Hr σ o) (σ 10) (σ 0 14) (σ 0 15) from (fun _ => ⟨by rw [eσ168, zq_up_ne (by omega), eσ147, zq_up_ne (by omega), eσ137, zq_up_ne (by omega), eσ127, zq_up_ne (by omega), eσ117, zq_up_ne (by omega), eσ107, zq_up_same]; omega, by rw [eσ168, zq_up_ne (by omega), eσ147, zq_up_ne (by omega), eσ137, zq_up_ne (by omega), eσ127, zq_up_ne (by omega), eσ117, zq_up_same]; omega, by rw [eσ168, zq_up_ne (by omega), eσ147, zq_up_ne (by omega), eσ137, zq_up_ne (by omega), eσ127, zq_up_same]; exact zu (by omega), by rw [eσ168, zq_up_ne (by omega), eσ147, zq_up_ne (by omega), eσ137, zq_up_same, zt_acS_sn]; omega, by rw [eσ168, zq_up_ne (by omega), eσ147, zq_up_same, zV0]; decide, by rw [eσ168, zq_up_same, zV0]; decide⟩))⟩
            · exfalso; omega
          · exfalso; omega
        · show V 74 [some (ZR 0), some (ZI o), some (ZI n), some (ZI ((18 * o) + (6 * n))), some (ZI r13), some (ZI r37), some (ZI (σ37 0 17)), some (ZI r59), none] [ZI (σ56 0 15), ZR 0] 41 σ56
          have zi := zt_nx_in (t := σ 10) (n := σ 0 14) (a := (zt_a3 (zt_Hr σ o) (σ 10) (σ 0 14) (σ 0 15))) (by omega)
          refine zr_iconst (pc := 74) hV 1 dX12_readAct_74 rfl ?_
          refine zr_goto (pc := 75) hV 79 dX12_readAct_75 (by decide) ?_
          show V 79 [some (ZR 0), some (ZI o), some (ZI n), some (ZI ((18 * o) + (6 * n))), some (ZI r13), some (ZI r37), some (ZI (σ37 0 17)), some (ZI r59), none] [ZI 1, ZI (σ56 0 15), ZR 0] 41 σ56
          refine zr_iadd (pc := 79) hV dX12_readAct_79 ?_
          refine zr_putI (pc := 80) hV 15 dX12_readAct_80 fX12_200 rfl rfl rfl rfl (by decide) (fun σ80 eσ80 => ?_)
          have hσ80 : zx_T σ80 := zx_u15 eσ80 hσ56 (by omega)
          have hFσ80 : ∀ a i : Int, (¬ (a = 0 ∧ i = 15) ∧ ¬ (a = 0 ∧ i = 17) ∧ ¬ (a = 6 ∧ 18 * o + 6 * n ≤ i ∧ i < 18 * o + 6 * n + 6)) → σ80 a i = σ a i := fun a i h => by rw [eσ80, zq_up_ne h.1]; exact hFσ56 a i h
          refine zr_iload (pc := 83) hV dX12_readAct_83 rfl ?_
          refine zr_if_le (pc := 85) hV 97 dX12_readAct_85 (by decide) (by omega) (fun c38 => ?_) (fun c38 => ?_)
          · exfalso; omega
          · show V 88 [some (ZR 0), some (ZI o), some (ZI n), some (ZI ((18 * o) + (6 * n))), some (ZI r13), some (ZI r37), some (ZI (σ37 0 17)), some (ZI r59), none] [] 41 σ80
            refine zr_aload_n (pc := 88) hV dX12_readAct_88 rfl rfl ?_
            refine zr_iload_n (pc := 89) hV dX12_readAct_89 rfl rfl ?_
            refine zr_iconst (pc := 90) hV 0 dX12_readAct_90 rfl ?_
            refine zr_callVi (pc := 91) hV [ZI o, ZI 0] (st := []) (c_X12_readNamedO (σ := σ80) hσ80 o 0 (by omega) (by omega)) dX12_readAct_91 mX12_241 rfl (by decide) (by decide) (Nat.le_of_ble_eq_true rfl) (Nat.le_refl _) (fun r91 σ91 hr91 pσ91 => ?_)
            obtain ⟨hσ91, hfσ91, pσ91⟩ := pσ91
            have hFσ91 : ∀ a i : Int, (¬ (a = 0 ∧ i = 15) ∧ ¬ (a = 0 ∧ i = 17) ∧ ¬ (a = 6 ∧ 18 * o + 6 * n ≤ i ∧ i < 18 * o + 6 * n + 6)) → σ91 a i = σ a i := fun a i h => (hfσ91 a i ⟨h.1, h.2.1⟩).trans (hFσ80 a i h)
            have t39 := zx_g14 hσ80
            have t40 : σ80 0 14 = σ56 0 14 := by rw [eσ80]; exact zq_up_ne (by omega)
            have t41 : σ56 0 14 = σ37 0 14 := hfσ56 _ _ (by omega)
            have t42 : σ37 0 14 = σ26 0 14 := hfσ37 _ _ (by omega)
            have t43 : σ26 0 14 = σ13 0 14 := hfσ26 _ _ (by omega)
            have t44 : σ13 0 14 = σ 0 14 := hfσ13 _ _ (by omega)
            have t45 := zx_g15 hσ80
            have t46 : σ80 0 15 = (σ56 0 15) + 1 := by rw [eσ80]; exact zq_up_same _ _ _ _
            have Tσ80 : σ80 10 = σ 10 := funext (fun i => hFσ80 10 i (by omega))
            have Nσ80 : σ80 0 14 = σ 0 14 := hFσ80 0 14 (by omega)
            have Hσ80 : zt_Hr σ80 o = zt_Hr σ o := zt_Hr_fr (fun i => hFσ80 2 i (by omega)) (hFσ80 0 2 (by omega))
            rw [Tσ80, Nσ80, Hσ80] at pσ91
            have t47 := zx_g15 hσ91
            have t48 := zx_g17 hσ91
            rw [show σ80 0 15 = zt_sk (σ 10) (σ 0 14) (zt_a3 (zt_Hr σ o) (σ 10) (σ 0 14) (σ 0 15)) + 1 by omega] at pσ91
            have zV : zt_opR (zt_Hr σ o) (σ 10) (σ 0 14) (zt_sk (σ 10) (σ 0 14) (zt_a3 (zt_Hr σ o) (σ 10) (σ 0 14) (σ 0 15)) + 1) = zt_acV (zt_Hr σ o) (σ 10) (σ 0 14) (σ 0 15) := by unfold zt_acV; rw [if_neg (by omega)]
            rw [zV] at pσ91
            have rb2 := zt_rc_b (zt_acV (zt_Hr σ o) (σ 10) (σ 0 14) (σ 0 15))
            have ob2 : -1 ≤ zt_acV (zt_Hr σ o) (σ 10) (σ 0 14) (σ 0 15) ∧ zt_acV (zt_Hr σ o) (σ 10) (σ 0 14) (σ 0 15) ≤ 271 := by rw [← zV]; exact zt_opR_b (zt_Hr σ o) (σ 10) (σ 0 14) _
            refine zr_goto (pc := 94) hV 98 dX12_readAct_94 (by decide) ?_
            show V 98 [some (ZR 0), some (ZI o), some (ZI n), some (ZI ((18 * o) + (6 * n))), some (ZI r13), some (ZI r37), some (ZI (σ37 0 17)), some (ZI r59), none] [ZI r91] 41 σ91
            refine zr_istore (pc := 98) hV [some (ZR 0), some (ZI o), some (ZI n), some (ZI ((18 * o) + (6 * n))), some (ZI r13), some (ZI r37), some (ZI (σ37 0 17)), some (ZI r59), some (ZI r91)] dX12_readAct_98 (by decide) rfl rfl ?_
            refine zr_aload_n (pc := 100) hV dX12_readAct_100 rfl rfl ?_
            refine zr_getR (pc := 101) hV 9 6 dX12_readAct_101 fX12_35 rfl rfl rfl (by decide) (zx_g9 hσ91) (by omega) ?_
            refine zr_iload_n (pc := 104) hV dX12_readAct_104 rfl rfl ?_
            refine zr_iload (pc := 105) hV dX12_readAct_105 rfl ?_
            refine zr_iast (pc := 107) hV dX12_readAct_107 rfl (by decide) rfl (by omega) (fun σ107 eσ107 => ?_)
            have hσ107 : zx_T σ107 := zx_ua6 eσ107 hσ91 (by omega)
            have hFσ107 : ∀ a i : Int, (¬ (a = 0 ∧ i = 15) ∧ ¬ (a = 0 ∧ i = 17) ∧ ¬ (a = 6 ∧ 18 * o + 6 * n ≤ i ∧ i < 18 * o + 6 * n + 6)) → σ107 a i = σ a i := fun a i h => by rw [eσ107, zq_up_ne (fun q => h.2.2 ⟨q.1, by omega⟩)]; exact hFσ91 a i h
            refine zr_aload_n (pc := 108) hV dX12_readAct_108 rfl rfl ?_
            refine zr_getR (pc := 109) hV 9 6 dX12_readAct_109 fX12_35 rfl rfl rfl (by decide) (zx_g9 hσ107) (by omega) ?_
            refine zr_iload_n (pc := 112) hV dX12_readAct_112 rfl rfl ?_
            refine zr_iconst (pc := 113) hV 1 dX12_readAct_113 rfl ?_
            refine zr_iadd (pc := 114) hV dX12_readAct_114 ?_
            refine zr_iload (pc := 115) hV dX12_readAct_115 rfl ?_
            refine zr_iast (pc := 117) hV dX12_readAct_117 rfl (by decide) rfl (by omega) (fun σ117 eσ117 => ?_)
            have hσ117 : zx_T σ117 := zx_ua6 eσ117 hσ107 (by omega)
            have hFσ117 : ∀ a i : Int, (¬ (a = 0 ∧ i = 15) ∧ ¬ (a = 0 ∧ i = 17) ∧ ¬ (a = 6 ∧ 18 * o + 6 * n ≤ i ∧ i < 18 * o + 6 * n + 6)) → σ117 a i = σ a i := fun a i h => by rw [eσ117, zq_up_ne (fun q => h.2.2 ⟨q.1, by omega⟩)]; exact hFσ107 a i h
            refine zr_aload_n (pc := 118) hV dX12_readAct_118 rfl rfl ?_
            refine zr_getR (pc := 119) hV 9 6 dX12_readAct_119 fX12_35 rfl rfl rfl (by decide) (zx_g9 hσ117) (by omega) ?_
            refine zr_iload_n (pc := 122) hV dX12_readAct_122 rfl rfl ?_
            refine zr_iconst (pc := 123) hV 2 dX12_readAct_123 rfl ?_
            refine zr_iadd (pc := 124) hV dX12_readAct_124 ?_
            refine zr_iload (pc := 125) hV dX12_readAct_125 rfl ?_
            refine zr_iast (pc := 127) hV dX12_readAct_127 rfl (by decide) rfl (by omega) (fun σ127 eσ127 => ?_)
            have hσ127 : zx_T σ127 := zx_ua6 eσ127 hσ117 (by omega)
            have hFσ127 : ∀ a i : Int, (¬ (a = 0 ∧ i = 15) ∧ ¬ (a = 0 ∧ i = 17) ∧ ¬ (a = 6 ∧ 18 * o + 6 * n ≤ i ∧ i < 18 * o + 6 * n + 6)) → σ127 a i = σ a i := fun a i h => by rw [eσ127, zq_up_ne (fun q => h.2.2 ⟨q.1, by omega⟩)]; exact hFσ117 a i h
            refine zr_aload_n (pc := 128) hV dX12_readAct_128 rfl rfl ?_
            refine zr_getR (pc := 129) hV 9 6 dX12_readAct_129 fX12_35 rfl rfl rfl (by decide) (zx_g9 hσ127) (by omega) ?_
            refine zr_iload_n (pc := 132) hV dX12_readAct_132 rfl rfl ?_
            refine zr_iconst (pc := 133) hV 3 dX12_readAct_133 rfl ?_
            refine zr_iadd (pc := 134) hV dX12_readAct_134 ?_
            refine zr_iload (pc := 135) hV dX12_readAct_135 rfl ?_
            refine zr_iast (pc := 137) hV dX12_readAct_137 rfl (by decide) rfl (by omega) (fun σ137 eσ137 => ?_)
            have hσ137 : zx_T σ137 := zx_ua6 eσ137 hσ127 (by omega)
            have hFσ137 : ∀ a i : Int, (¬ (a = 0 ∧ i = 15) ∧ ¬ (a = 0 ∧ i = 17) ∧ ¬ (a = 6 ∧ 18 * o + 6 * n ≤ i ∧ i < 18 * o + 6 * n + 6)) → σ137 a i = σ a i := fun a i h => by rw [eσ137, zq_up_ne (fun q => h.2.2 ⟨q.1, by omega⟩)]; exact hFσ127 a i h
            refine zr_aload_n (pc := 138) hV dX12_readAct_138 rfl rfl ?_
            refine zr_getR (pc := 139) hV 9 6 dX12_readAct_139 fX12_35 rfl rfl rfl (by decide) (zx_g9 hσ137) (by omega) ?_
            refine zr_iload_n (pc := 142) hV dX12_readAct_142 rfl rfl ?_
            refine zr_iconst (pc := 143) hV 4 dX12_readAct_143 rfl ?_
            refine zr_iadd (pc := 144) hV dX12_readAct_144 ?_
            refine zr_iload (pc := 145) hV dX12_readAct_145 rfl ?_
            refine zr_iast (pc := 147) hV dX12_readAct_147 rfl (by decide) rfl (by omega) (fun σ147 eσ147 => ?_)
            have hσ147 : zx_T σ147 := zx_ua6 eσ147 hσ137 (by omega)
            have hFσ147 : ∀ a i : Int, (¬ (a = 0 ∧ i = 15) ∧ ¬ (a = 0 ∧ i = 17) ∧ ¬ (a = 6 ∧ 18 * o + 6 * n ≤ i ∧ i < 18 * o + 6 * n + 6)) → σ147 a i = σ a i := fun a i h => by rw [eσ147, zq_up_ne (fun q => h.2.2 ⟨q.1, by omega⟩)]; exact hFσ137 a i h
            refine zr_aload_n (pc := 148) hV dX12_readAct_148 rfl rfl ?_
            refine zr_getR (pc := 149) hV 9 6 dX12_readAct_149 fX12_35 rfl rfl rfl (by decide) (zx_g9 hσ147) (by omega) ?_
            refine zr_iload_n (pc := 152) hV dX12_readAct_152 rfl rfl ?_
            refine zr_iconst (pc := 153) hV 5 dX12_readAct_153 rfl ?_
            refine zr_iadd (pc := 154) hV dX12_readAct_154 ?_
            refine zr_iload (pc := 155) hV dX12_readAct_155 rfl ?_
            refine zr_if_le (pc := 157) hV 167 dX12_readAct_157 (by decide) (by omega) (fun c49 => ?_) (fun c49 => ?_)
            · exfalso; omega
            · show V 160 [some (ZR 0), some (ZI o), some (ZI n), some (ZI ((18 * o) + (6 * n))), some (ZI r13), some (ZI r37), some (ZI (σ37 0 17)), some (ZI r59), some (ZI r91)] [ZI (((18 * o) + (6 * n)) + 5), ZR 6] 41 σ147
              refine zr_aload_n (pc := 160) hV dX12_readAct_160 rfl rfl ?_
              refine zr_getI (pc := 161) hV 17 dX12_readAct_161 fX12_228 rfl rfl rfl (by decide) ?_
              have t50 := zx_g17 hσ147
              have t51 : σ147 0 17 = σ137 0 17 := by rw [eσ147]; exact zq_up_ne (by omega)
              have t52 : σ137 0 17 = σ127 0 17 := by rw [eσ137]; exact zq_up_ne (by omega)
              have t53 : σ127 0 17 = σ117 0 17 := by rw [eσ127]; exact zq_up_ne (by omega)
              have t54 : σ117 0 17 = σ107 0 17 := by rw [eσ117]; exact zq_up_ne (by omega)
              have t55 : σ107 0 17 = σ91 0 17 := by rw [eσ107]; exact zq_up_ne (by omega)
              refine zr_goto (pc := 164) hV 168 dX12_readAct_164 (by decide) ?_
              show V 168 [some (ZR 0), some (ZI o), some (ZI n), some (ZI ((18 * o) + (6 * n))), some (ZI r13), some (ZI r37), some (ZI (σ37 0 17)), some (ZI r59), some (ZI r91)] [ZI (σ147 0 17), ZI (((18 * o) + (6 * n)) + 5), ZR 6] 41 σ147
              refine zr_iast (pc := 168) hV dX12_readAct_168 rfl (by decide) rfl (by omega) (fun σ168 eσ168 => ?_)
              have hσ168 : zx_T σ168 := zx_ua6 eσ168 hσ147 (by omega)
              have hFσ168 : ∀ a i : Int, (¬ (a = 0 ∧ i = 15) ∧ ¬ (a = 0 ∧ i = 17) ∧ ¬ (a = 6 ∧ 18 * o + 6 * n ≤ i ∧ i < 18 * o + 6 * n + 6)) → σ168 a i = σ a i := fun a i h => by rw [eσ168, zq_up_ne (fun q => h.2.2 ⟨q.1, by omega⟩)]; exact hFσ147 a i h
              refine zr_iload (pc := 169) hV dX12_readAct_169 rfl ?_
              refine zr_if_lt (pc := 171) hV 178 dX12_readAct_171 (by decide) (by omega) (fun c56 => ?_) (fun c56 => ?_)
              · show V 178 [some (ZR 0), some (ZI o), some (ZI n), some (ZI ((18 * o) + (6 * n))), some (ZI r13), some (ZI r37), some (ZI (σ37 0 17)), some (ZI r59), some (ZI r91)] [] 41 σ168
                refine zr_iconst (pc := 178) hV 0 dX12_readAct_178 rfl ?_
                show V 179 [some (ZR 0), some (ZI o), some (ZI n), some (ZI ((18 * o) + (6 * n))), some (ZI r13), some (ZI r37), some (ZI (σ37 0 17)), some (ZI r59), some (ZI r91)] [ZI 0] 41 σ168
                have t57 := zx_g15 hσ168
                have t58 : σ168 0 15 = σ147 0 15 := by rw [eσ168]; exact zq_up_ne (by omega)
                have t59 : σ147 0 15 = σ137 0 15 := by rw [eσ147]; exact zq_up_ne (by omega)
                have t60 : σ137 0 15 = σ127 0 15 := by rw [eσ137]; exact zq_up_ne (by omega)
                have t61 : σ127 0 15 = σ117 0 15 := by rw [eσ127]; exact zq_up_ne (by omega)
                have t62 : σ117 0 15 = σ107 0 15 := by rw [eσ117]; exact zq_up_ne (by omega)
                have t63 : σ107 0 15 = σ91 0 15 := by rw [eσ107]; exact zq_up_ne (by omega)
                exact zr_zret (pc := 179) hV dX12_readAct_179 rfl rfl (by omega) ⟨_, rfl, ⟨by decide, by decide⟩, hσ168, hFσ168, ⟨by omega, by omega, (by unfold zt_acR; repeat (first | rw [if_pos (by omega)] | rw [if_neg (by omega)]); all_goals omega), (by unfold zt_acA; repeat (first | rw [if_pos (by omega)] | rw [if_neg (by omega)]); all_goals omega)⟩, (show (0 : Int) = 1 → zt_rac σ168 (18 * o + 6 * n) (zt_Hr σ o) (σ 10) (σ 0 14) (σ 0 15) from (fun h => absurd h (by omega)))⟩
              · show V 174 [some (ZR 0), some (ZI o), some (ZI n), some (ZI ((18 * o) + (6 * n))), some (ZI r13), some (ZI r37), some (ZI (σ37 0 17)), some (ZI r59), some (ZI r91)] [] 41 σ168
                refine zr_iconst (pc := 174) hV 1 dX12_readAct_174 rfl ?_
                refine zr_goto (pc := 175) hV 179 dX12_readAct_175 (by decide) ?_
                show V 179 [some (ZR 0), some (ZI o), some (ZI n), some (ZI ((18 * o) + (6 * n))), some (ZI r13), some (ZI r37), some (ZI (σ37 0 17)), some (ZI r59), some (ZI r91)] [ZI 1] 41 σ168
                have t64 := zx_g15 hσ168
                have t65 : σ168 0 15 = σ147 0 15 := by rw [eσ168]; exact zq_up_ne (by omega)
                have t66 : σ147 0 15 = σ137 0 15 := by rw [eσ147]; exact zq_up_ne (by omega)
                have t67 : σ137 0 15 = σ127 0 15 := by rw [eσ137]; exact zq_up_ne (by omega)
                have t68 : σ127 0 15 = σ117 0 15 := by rw [eσ127]; exact zq_up_ne (by omega)
                have t69 : σ117 0 15 = σ107 0 15 := by rw [eσ117]; exact zq_up_ne (by omega)
                have t70 : σ107 0 15 = σ91 0 15 := by rw [eσ107]; exact zq_up_ne (by omega)
                exact zr_zret (pc := 179) hV dX12_readAct_179 rfl rfl (by omega) ⟨_, rfl, ⟨by decide, by decide⟩, hσ168, hFσ168, ⟨by omega, by omega, (by unfold zt_acR; repeat (first | rw [if_pos (by omega)] | rw [if_neg (by omega)]); all_goals omega), (by unfold zt_acA; repeat (first | rw [if_pos (by omega)] | rw [if_neg (by omega)]); all_goals omega)⟩, (show (1 : Int) = 1 → zt_rac σ168 (18 * o + 6 * n) (zt_Hr σ o) (σ 10) (σ 0 14) (σ 0 15) from (fun _ => ⟨by rw [eσ168, zq_up_ne (by omega), eσ147, zq_up_ne (by omega), eσ137, zq_up_ne (by omega), eσ127, zq_up_ne (by omega), eσ117, zq_up_ne (by omega), eσ107, zq_up_same]; omega, by rw [eσ168, zq_up_ne (by omega), eσ147, zq_up_ne (by omega), eσ137, zq_up_ne (by omega), eσ127, zq_up_ne (by omega), eσ117, zq_up_same]; omega, by rw [eσ168, zq_up_ne (by omega), eσ147, zq_up_ne (by omega), eσ137, zq_up_ne (by omega), eσ127, zq_up_same]; exact zu (by omega), by rw [eσ168, zq_up_ne (by omega), eσ147, zq_up_ne (by omega), eσ137, zq_up_same, zt_acS_sn]; omega, by rw [eσ168, zq_up_ne (by omega), eσ147, zq_up_same]; omega, by rw [eσ168, zq_up_same]; have := pσ91.2.2.2.2 (by omega); omega⟩))⟩
      · show V 53 [some (ZR 0), some (ZI o), some (ZI n), some (ZI ((18 * o) + (6 * n))), some (ZI r13), some (ZI r37), some (ZI (σ37 0 17)), none, none] [] 41 σ37
        refine zr_iconst (pc := 53) hV 0 dX12_readAct_53 rfl ?_
        have t71 := zx_g15 hσ37
        exact zr_zret (pc := 54) hV dX12_readAct_54 rfl rfl (by omega) ⟨_, rfl, ⟨by decide, by decide⟩, hσ37, hFσ37, ⟨by omega, by omega, (by unfold zt_acR; repeat (first | rw [if_pos (by omega)] | rw [if_neg (by omega)]); all_goals omega), (by unfold zt_acA; repeat (first | rw [if_pos (by omega)] | rw [if_neg (by omega)]); all_goals omega)⟩, (show (0 : Int) = 1 → zt_rac σ37 (18 * o + 6 * n) (zt_Hr σ o) (σ 10) (σ 0 14) (σ 0 15) from (fun h => absurd h (by omega)))⟩
    · show V 32 [some (ZR 0), some (ZI o), some (ZI n), some (ZI ((18 * o) + (6 * n))), some (ZI r13), none, none, none, none] [] 41 σ26
      refine zr_iconst (pc := 32) hV 0 dX12_readAct_32 rfl ?_
      have t72 := zx_g15 hσ26
      exact zr_zret (pc := 33) hV dX12_readAct_33 rfl rfl (by omega) ⟨_, rfl, ⟨by decide, by decide⟩, hσ26, hFσ26, ⟨by omega, by omega, (by unfold zt_acR; repeat (first | rw [if_pos (by omega)] | rw [if_neg (by omega)]); all_goals omega), (by unfold zt_acA; repeat (first | rw [if_pos (by omega)] | rw [if_neg (by omega)]); all_goals omega)⟩, (show (0 : Int) = 1 → zt_rac σ26 (18 * o + 6 * n) (zt_Hr σ o) (σ 10) (σ 0 14) (σ 0 15) from (fun h => absurd h (by omega)))⟩
