set_option maxHeartbeats 800000 in
theorem c_X12_readGuard2 {σ : zq_S} (hσ : zx_T σ) (o : Int) (q0 : 0 ≤ o ∧ o ≤ 20) : zq_C zx_w yX12_readGuard cX12_readGuard 4 (some .boolean) 3 68 41 41 [ZR 0, ZI o] σ (zq_pi (fun r τ => zx_T τ ∧ (∀ a i : Int, (¬ (a = 0 ∧ i = 15) ∧ ¬ (a = 3 ∧ i = o) ∧ ¬ (a = 4 ∧ i = o)) → τ a i = σ a i) ∧ (0 ≤ r ∧ r ≤ 1 ∧ r = zt_gR (zt_Hr σ o) (σ 10) (σ 0 14) (σ 0 15) ∧ τ 0 15 = zt_gA (zt_Hr σ o) (σ 10) (σ 0 14) (σ 0 15)) ∧ zq_hid (r = 1 → τ 3 o = zt_gK (σ 10) (σ 0 14) (σ 0 15) ∧ τ 4 o = zt_gO (zt_Hr σ o) (σ 10) (σ 0 14) (σ 0 15)))) := by
  refine zq_C_of (by decide) (Nat.le_refl _) (Nat.le_of_ble_eq_true rfl) [some (ZR 0), some (ZI o), none, none] rfl (fun V hV => ?_)
  have z14 := zx_g14 hσ
  show V 0 [some (ZR 0), some (ZI o), none, none] [] 41 σ
  refine zr_aload_n (pc := 0) hV dX12_readGuard_0 rfl rfl ?_
  refine zr_getR (pc := 1) hV 6 3 dX12_readGuard_1 fX12_26 rfl rfl rfl (by decide) (zx_g6 hσ) (by omega) ?_
  refine zr_iload_n (pc := 4) hV dX12_readGuard_4 rfl rfl ?_
  refine zr_iconst (pc := 5) hV 0 dX12_readGuard_5 rfl ?_
  refine zr_iast (pc := 6) hV dX12_readGuard_6 rfl (by decide) rfl (by omega) (fun σ6 eσ6 => ?_)
  have hσ6 : zx_T σ6 := zx_ua3 eσ6 hσ (by omega)
  have hFσ6 : ∀ a i : Int, (¬ (a = 0 ∧ i = 15) ∧ ¬ (a = 3 ∧ i = o) ∧ ¬ (a = 4 ∧ i = o)) → σ6 a i = σ a i := fun a i h => by rw [eσ6, zq_up_ne (fun q => h.2.1 ⟨q.1, by omega⟩)]
  refine zr_aload_n (pc := 7) hV dX12_readGuard_7 rfl rfl ?_
  refine zr_getR (pc := 8) hV 7 4 dX12_readGuard_8 fX12_29 rfl rfl rfl (by decide) (zx_g7 hσ6) (by omega) ?_
  refine zr_iload_n (pc := 11) hV dX12_readGuard_11 rfl rfl ?_
  refine zr_iconst (pc := 12) hV 0 dX12_readGuard_12 rfl ?_
  refine zr_iast (pc := 13) hV dX12_readGuard_13 rfl (by decide) rfl (by omega) (fun σ13 eσ13 => ?_)
  have hσ13 : zx_T σ13 := zx_ua4 eσ13 hσ6 (by omega)
  have hFσ13 : ∀ a i : Int, (¬ (a = 0 ∧ i = 15) ∧ ¬ (a = 3 ∧ i = o) ∧ ¬ (a = 4 ∧ i = o)) → σ13 a i = σ a i := fun a i h => by rw [eσ13, zq_up_ne (fun q => h.2.2 ⟨q.1, by omega⟩)]; exact hFσ6 a i h
  refine zr_aload_n (pc := 14) hV dX12_readGuard_14 rfl rfl ?_
  refine zr_bipush (pc := 15) hV 63 dX12_readGuard_15 (by decide) ?_
  refine zr_callVi (pc := 17) hV [ZI 63] (st := []) (c_X12_takes2 (σ := σ13) hσ13 63 (by omega)) dX12_readGuard_17 mX12_234 rfl (by decide) (by decide) (Nat.le_of_ble_eq_true rfl) (Nat.le_refl _) (fun r17 σ17 hr17 pσ17 => ?_)
  obtain ⟨hσ17, hfσ17, pσ17⟩ := pσ17
  have hFσ17 : ∀ a i : Int, (¬ (a = 0 ∧ i = 15) ∧ ¬ (a = 3 ∧ i = o) ∧ ¬ (a = 4 ∧ i = o)) → σ17 a i = σ a i := fun a i h => (hfσ17 a i h.1).trans (hFσ13 a i h)
  have t1 := zx_g14 hσ13
  have t2 : σ13 0 14 = σ6 0 14 := by rw [eσ13]; exact zq_up_ne (by omega)
  have t3 : σ6 0 14 = σ 0 14 := by rw [eσ6]; exact zq_up_ne (by omega)
  have t4 := zx_g15 hσ13
  have t5 : σ13 0 15 = σ6 0 15 := by rw [eσ13]; exact zq_up_ne (by omega)
  have t6 : σ6 0 15 = σ 0 15 := by rw [eσ6]; exact zq_up_ne (by omega)
  have Tσ13 : σ13 10 = σ 10 := funext (fun i => hFσ13 10 i (by omega))
  have Nσ13 : σ13 0 14 = σ 0 14 := hFσ13 0 14 (by omega)
  rw [Tσ13, Nσ13] at pσ17
  have t7 := zx_g15 hσ17
  rw [show σ13 0 15 = σ 0 15 by omega] at pσ17
  refine zr_if_ne (pc := 20) hV 25 dX12_readGuard_20 (by decide) (by omega) (fun c8 => ?_) (fun c8 => ?_)
  · show V 25 [some (ZR 0), some (ZI o), none, none] [] 41 σ17
    refine zr_aload_n (pc := 25) hV dX12_readGuard_25 rfl rfl ?_
    refine zr_getR (pc := 26) hV 6 3 dX12_readGuard_26 fX12_26 rfl rfl rfl (by decide) (zx_g6 hσ17) (by omega) ?_
    refine zr_iload_n (pc := 29) hV dX12_readGuard_29 rfl rfl ?_
    refine zr_aload_n (pc := 30) hV dX12_readGuard_30 rfl rfl ?_
    refine zr_bipush (pc := 31) hV 33 dX12_readGuard_31 (by decide) ?_
    refine zr_callVi (pc := 33) hV [ZI 33] (st := [ZI o, ZR 3]) (c_X12_takes2 (σ := σ17) hσ17 33 (by omega)) dX12_readGuard_33 mX12_234 rfl (by decide) (by decide) (Nat.le_of_ble_eq_true rfl) (Nat.le_refl _) (fun r33 σ33 hr33 pσ33 => ?_)
    obtain ⟨hσ33, hfσ33, pσ33⟩ := pσ33
    have hFσ33 : ∀ a i : Int, (¬ (a = 0 ∧ i = 15) ∧ ¬ (a = 3 ∧ i = o) ∧ ¬ (a = 4 ∧ i = o)) → σ33 a i = σ a i := fun a i h => (hfσ33 a i h.1).trans (hFσ17 a i h)
    have t9 := zx_g14 hσ17
    have t10 : σ17 0 14 = σ13 0 14 := hfσ17 _ _ (by omega)
    have t11 : σ13 0 14 = σ6 0 14 := by rw [eσ13]; exact zq_up_ne (by omega)
    have t12 : σ6 0 14 = σ 0 14 := by rw [eσ6]; exact zq_up_ne (by omega)
    have t13 := zx_g15 hσ17
    have Tσ17 : σ17 10 = σ 10 := funext (fun i => hFσ17 10 i (by omega))
    have Nσ17 : σ17 0 14 = σ 0 14 := hFσ17 0 14 (by omega)
    rw [Tσ17, Nσ17] at pσ33
    have t14 := zx_g15 hσ33
    rw [show σ17 0 15 = zt_tkA (σ 10) (σ 0 14) 63 (σ 0 15) by omega] at pσ33
    refine zr_if_eq (pc := 36) hV 43 dX12_readGuard_36 (by decide) (by omega) (fun c15 => ?_) (fun c15 => ?_)
    · show V 43 [some (ZR 0), some (ZI o), none, none] [ZI o, ZR 3] 41 σ33
      refine zr_iconst (pc := 43) hV 1 dX12_readGuard_43 rfl ?_
      show V 44 [some (ZR 0), some (ZI o), none, none] [ZI 1, ZI o, ZR 3] 41 σ33
      refine zr_iast (pc := 44) hV dX12_readGuard_44 rfl (by decide) rfl (by omega) (fun σ44 eσ44 => ?_)
      have hσ44 : zx_T σ44 := zx_ua3 eσ44 hσ33 (by omega)
      have hFσ44 : ∀ a i : Int, (¬ (a = 0 ∧ i = 15) ∧ ¬ (a = 3 ∧ i = o) ∧ ¬ (a = 4 ∧ i = o)) → σ44 a i = σ a i := fun a i h => by rw [eσ44, zq_up_ne (fun q => h.2.1 ⟨q.1, by omega⟩)]; exact hFσ33 a i h
      have z44 : σ44 0 15 = σ33 0 15 := by rw [eσ44]; exact zq_up_ne (by omega)
      have zg2 : σ44 0 15 = (zt_g2 (σ 10) (σ 0 14) (σ 0 15)) := by unfold zt_g2; omega
      have zgk : zt_gK (σ 10) (σ 0 14) (σ 0 15) = 1 := by unfold zt_gK; rw [if_neg (by omega), if_pos (by omega)]
      have zgo : zt_gO (zt_Hr σ o) (σ 10) (σ 0 14) (σ 0 15) = zt_ns (zt_Hr σ o) (zt_nx (σ 10) (σ 0 14) (zt_g2 (σ 10) (σ 0 14) (σ 0 15))) := by unfold zt_gO; rw [if_neg (by omega)]
      have zt63 : ¬ zt_tkR (σ 10) (σ 0 14) 63 (σ 0 15) = 0 := by omega
      refine zr_aload_n (pc := 45) hV dX12_readGuard_45 rfl rfl ?_
      refine zr_bipush (pc := 46) hV 122 dX12_readGuard_46 (by decide) ?_
      refine zr_callVi (pc := 48) hV [ZI 122] (st := []) (c_X12_takes2 (σ := σ44) hσ44 122 (by omega)) dX12_readGuard_48 mX12_234 rfl (by decide) (by decide) (Nat.le_of_ble_eq_true rfl) (Nat.le_refl _) (fun r48 σ48 hr48 pσ48 => ?_)
      obtain ⟨hσ48, hfσ48, pσ48⟩ := pσ48
      have hFσ48 : ∀ a i : Int, (¬ (a = 0 ∧ i = 15) ∧ ¬ (a = 3 ∧ i = o) ∧ ¬ (a = 4 ∧ i = o)) → σ48 a i = σ a i := fun a i h => (hfσ48 a i h.1).trans (hFσ44 a i h)
      have t16 := zx_g14 hσ44
      have t17 : σ44 0 14 = σ33 0 14 := by rw [eσ44]; exact zq_up_ne (by omega)
      have t18 : σ33 0 14 = σ17 0 14 := hfσ33 _ _ (by omega)
      have t19 : σ17 0 14 = σ13 0 14 := hfσ17 _ _ (by omega)
      have t20 : σ13 0 14 = σ6 0 14 := by rw [eσ13]; exact zq_up_ne (by omega)
      have t21 : σ6 0 14 = σ 0 14 := by rw [eσ6]; exact zq_up_ne (by omega)
      have t22 := zx_g15 hσ44
      have t23 : σ44 0 15 = σ33 0 15 := by rw [eσ44]; exact zq_up_ne (by omega)
      have Tσ44 : σ44 10 = σ 10 := funext (fun i => hFσ44 10 i (by omega))
      have Nσ44 : σ44 0 14 = σ 0 14 := hFσ44 0 14 (by omega)
      rw [Tσ44, Nσ44] at pσ48
      have t24 := zx_g15 hσ48
      rw [zg2] at pσ48
      refine zr_if_eq (pc := 51) hV 64 dX12_readGuard_51 (by decide) (by omega) (fun c25 => ?_) (fun c25 => ?_)
      · show V 64 [some (ZR 0), some (ZI o), none, none] [] 41 σ48
        have zn := zt_tk_n (t := σ 10) (n := σ 0 14) (c := 122) (a := (zt_g2 (σ 10) (σ 0 14) (σ 0 15))) (by omega)
        refine zr_aload_n (pc := 64) hV dX12_readGuard_64 rfl rfl ?_
        refine zr_callVi (pc := 65) hV [] (st := []) (c_X12_next2 (σ := σ48) hσ48 ) dX12_readGuard_65 mX12_203 rfl (by decide) (by decide) (Nat.le_of_ble_eq_true rfl) (Nat.le_refl _) (fun r65 σ65 hr65 pσ65 => ?_)
        obtain ⟨hσ65, hfσ65, pσ65⟩ := pσ65
        have hFσ65 : ∀ a i : Int, (¬ (a = 0 ∧ i = 15) ∧ ¬ (a = 3 ∧ i = o) ∧ ¬ (a = 4 ∧ i = o)) → σ65 a i = σ a i := fun a i h => (hfσ65 a i h.1).trans (hFσ48 a i h)
        have t26 := zx_g14 hσ48
        have t27 : σ48 0 14 = σ44 0 14 := hfσ48 _ _ (by omega)
        have t28 : σ44 0 14 = σ33 0 14 := by rw [eσ44]; exact zq_up_ne (by omega)
        have t29 : σ33 0 14 = σ17 0 14 := hfσ33 _ _ (by omega)
        have t30 : σ17 0 14 = σ13 0 14 := hfσ17 _ _ (by omega)
        have t31 : σ13 0 14 = σ6 0 14 := by rw [eσ13]; exact zq_up_ne (by omega)
        have t32 : σ6 0 14 = σ 0 14 := by rw [eσ6]; exact zq_up_ne (by omega)
        have t33 := zx_g15 hσ48
        have Tσ48 : σ48 10 = σ 10 := funext (fun i => hFσ48 10 i (by omega))
        have Nσ48 : σ48 0 14 = σ 0 14 := hFσ48 0 14 (by omega)
        rw [Tσ48, Nσ48] at pσ65
        have t34 := zx_g15 hσ65
        rw [show σ48 0 15 = zt_sk (σ 10) (σ 0 14) (zt_g2 (σ 10) (σ 0 14) (σ 0 15)) by omega, zt_sk_i, zt_nx_i] at pσ65
        refine zr_istore_n (pc := 68) hV [some (ZR 0), some (ZI o), some (ZI r65), none] dX12_readGuard_68 rfl (by decide) rfl rfl ?_
        refine zr_iload_n (pc := 69) hV dX12_readGuard_69 rfl rfl ?_
        refine zr_bipush (pc := 70) hV 105 dX12_readGuard_70 (by decide) ?_
        refine zr_icmp_ne (pc := 72) hV 79 dX12_readGuard_72 (by decide) (by omega) ⟨by decide, by decide⟩ (fun c35 => ?_) (fun c35 => ?_)
        · show V 79 [some (ZR 0), some (ZI o), some (ZI r65), none] [] 41 σ65
          refine zr_aload_n (pc := 79) hV dX12_readGuard_79 rfl rfl ?_
          refine zr_iload_n (pc := 80) hV dX12_readGuard_80 rfl rfl ?_
          refine zr_callVi (pc := 81) hV [ZI o] (st := []) (c_X12_readField2 (σ := σ65) hσ65 o (by omega)) dX12_readGuard_81 mX12_231 rfl (by decide) (by decide) (Nat.le_of_ble_eq_true rfl) (Nat.le_refl _) (fun r81 σ81 hr81 pσ81 => ?_)
          obtain ⟨hσ81, hfσ81, pσ81⟩ := pσ81
          have hFσ81 : ∀ a i : Int, (¬ (a = 0 ∧ i = 15) ∧ ¬ (a = 3 ∧ i = o) ∧ ¬ (a = 4 ∧ i = o)) → σ81 a i = σ a i := fun a i h => (hfσ81 a i h.1).trans (hFσ65 a i h)
          have t36 := zx_g14 hσ65
          have t37 : σ65 0 14 = σ48 0 14 := hfσ65 _ _ (by omega)
          have t38 : σ48 0 14 = σ44 0 14 := hfσ48 _ _ (by omega)
          have t39 : σ44 0 14 = σ33 0 14 := by rw [eσ44]; exact zq_up_ne (by omega)
          have t40 : σ33 0 14 = σ17 0 14 := hfσ33 _ _ (by omega)
          have t41 : σ17 0 14 = σ13 0 14 := hfσ17 _ _ (by omega)
          have t42 : σ13 0 14 = σ6 0 14 := by rw [eσ13]; exact zq_up_ne (by omega)
          have t43 : σ6 0 14 = σ 0 14 := by rw [eσ6]; exact zq_up_ne (by omega)
          have t44 := zx_g15 hσ65
          have Tσ65 : σ65 10 = σ 10 := funext (fun i => hFσ65 10 i (by omega))
          have Nσ65 : σ65 0 14 = σ 0 14 := hFσ65 0 14 (by omega)
          have Hσ65 : zt_Hr σ65 o = zt_Hr σ o := zt_Hr_fr (fun i => hFσ65 2 i (by omega)) (hFσ65 0 2 (by omega))
          rw [Tσ65, Nσ65, Hσ65] at pσ81
          have t45 := zx_g15 hσ81
          show V 84 [some (ZR 0), some (ZI o), some (ZI r65), none] [ZI r81] 41 σ81
          rw [show σ65 0 15 = zt_sk (σ 10) (σ 0 14) (zt_g2 (σ 10) (σ 0 14) (σ 0 15)) by omega, zt_nx_i, zt_sk_i] at pσ81
          have zq5 := zt_ns_q (H := (zt_Hr σ o)) (c := (zt_nx (σ 10) (σ 0 14) (zt_g2 (σ 10) (σ 0 14) (σ 0 15)))) zn.1
          refine zr_istore_n (pc := 84) hV [some (ZR 0), some (ZI o), some (ZI r65), some (ZI r81)] dX12_readGuard_84 rfl (by decide) rfl rfl ?_
          refine zr_iload_n (pc := 85) hV dX12_readGuard_85 rfl rfl ?_
          refine zr_if_ge (pc := 86) hV 91 dX12_readGuard_86 (by decide) (by omega) (fun c46 => ?_) (fun c46 => ?_)
          · show V 91 [some (ZR 0), some (ZI o), some (ZI r65), some (ZI r81)] [] 41 σ81
            have zn4 : zt_ns (zt_Hr σ o) (zt_nx (σ 10) (σ 0 14) (zt_g2 (σ 10) (σ 0 14) (σ 0 15))) = r81 := by omega
            have zgb : ¬ (zt_gO (zt_Hr σ o) (σ 10) (σ 0 14) (σ 0 15) = -1 ∨ zt_gO (zt_Hr σ o) (σ 10) (σ 0 14) (σ 0 15) = 3 ∨ zt_gO (zt_Hr σ o) (σ 10) (σ 0 14) (σ 0 15) = 5) := by omega
            refine zr_aload_n (pc := 91) hV dX12_readGuard_91 rfl rfl ?_
            refine zr_getR (pc := 92) hV 7 4 dX12_readGuard_92 fX12_29 rfl rfl rfl (by decide) (zx_g7 hσ81) (by omega) ?_
            refine zr_iload_n (pc := 95) hV dX12_readGuard_95 rfl rfl ?_
            refine zr_iload_n (pc := 96) hV dX12_readGuard_96 rfl rfl ?_
            refine zr_iast (pc := 97) hV dX12_readGuard_97 rfl (by decide) rfl (by omega) (fun σ97 eσ97 => ?_)
            have hσ97 : zx_T σ97 := zx_ua4 eσ97 hσ81 (by omega)
            have hFσ97 : ∀ a i : Int, (¬ (a = 0 ∧ i = 15) ∧ ¬ (a = 3 ∧ i = o) ∧ ¬ (a = 4 ∧ i = o)) → σ97 a i = σ a i := fun a i h => by rw [eσ97, zq_up_ne (fun q => h.2.2 ⟨q.1, by omega⟩)]; exact hFσ81 a i h
            show V 98 [some (ZR 0), some (ZI o), some (ZI r65), some (ZI r81)] [] 41 σ97
            refine zr_aload_n (pc := 98) hV dX12_readGuard_98 rfl rfl ?_
            refine zr_bipush (pc := 99) hV 44 dX12_readGuard_99 (by decide) ?_
            refine zr_callVi (pc := 101) hV [ZI 44] (st := []) (c_X12_takes2 (σ := σ97) hσ97 44 (by omega)) dX12_readGuard_101 mX12_234 rfl (by decide) (by decide) (Nat.le_of_ble_eq_true rfl) (Nat.le_refl _) (fun r101 σ101 hr101 pσ101 => ?_)
            obtain ⟨hσ101, hfσ101, pσ101⟩ := pσ101
            have hFσ101 : ∀ a i : Int, (¬ (a = 0 ∧ i = 15) ∧ ¬ (a = 3 ∧ i = o) ∧ ¬ (a = 4 ∧ i = o)) → σ101 a i = σ a i := fun a i h => (hfσ101 a i h.1).trans (hFσ97 a i h)
            have t47 := zx_g14 hσ97
            have t48 : σ97 0 14 = σ81 0 14 := by rw [eσ97]; exact zq_up_ne (by omega)
            have t49 : σ81 0 14 = σ65 0 14 := hfσ81 _ _ (by omega)
            have t50 : σ65 0 14 = σ48 0 14 := hfσ65 _ _ (by omega)
            have t51 : σ48 0 14 = σ44 0 14 := hfσ48 _ _ (by omega)
            have t52 : σ44 0 14 = σ33 0 14 := by rw [eσ44]; exact zq_up_ne (by omega)
            have t53 : σ33 0 14 = σ17 0 14 := hfσ33 _ _ (by omega)
            have t54 : σ17 0 14 = σ13 0 14 := hfσ17 _ _ (by omega)
            have t55 : σ13 0 14 = σ6 0 14 := by rw [eσ13]; exact zq_up_ne (by omega)
            have t56 : σ6 0 14 = σ 0 14 := by rw [eσ6]; exact zq_up_ne (by omega)
            have t57 := zx_g15 hσ97
            have t58 : σ97 0 15 = σ81 0 15 := by rw [eσ97]; exact zq_up_ne (by omega)
            have Tσ97 : σ97 10 = σ 10 := funext (fun i => hFσ97 10 i (by omega))
            have Nσ97 : σ97 0 14 = σ 0 14 := hFσ97 0 14 (by omega)
            rw [Tσ97, Nσ97] at pσ101
            have t59 := zx_g15 hσ101
            rw [show σ97 0 15 = zt_sk (σ 10) (σ 0 14) (zt_g2 (σ 10) (σ 0 14) (σ 0 15)) + 1 by omega] at pσ101
            have t60 := zx_g15 hσ101
            exact zr_zret (pc := 104) hV dX12_readGuard_104 rfl rfl (by omega) ⟨_, rfl, (by omega), hσ101, hFσ101, ⟨by omega, by omega, (by unfold zt_gR; rw [if_neg zt63, if_neg zgb]; omega), (by unfold zt_gA; rw [if_neg zt63, if_neg zgb]; omega)⟩, (show r101 = 1 → σ101 3 o = zt_gK (σ 10) (σ 0 14) (σ 0 15) ∧ σ101 4 o = zt_gO (zt_Hr σ o) (σ 10) (σ 0 14) (σ 0 15) from (fun _ => ⟨by rw [hfσ101 3 _ (by omega), eσ97, zq_up_ne (by omega), hfσ81 3 _ (by omega), hfσ65 3 _ (by omega), hfσ48 3 _ (by omega), eσ44, zq_up_same]; omega, by rw [hfσ101 4 _ (by omega), eσ97, zq_up_same]; omega⟩))⟩
          · show V 89 [some (ZR 0), some (ZI o), some (ZI r65), some (ZI r81)] [] 41 σ81
            have zgb : zt_gO (zt_Hr σ o) (σ 10) (σ 0 14) (σ 0 15) = -1 ∨ zt_gO (zt_Hr σ o) (σ 10) (σ 0 14) (σ 0 15) = 3 ∨ zt_gO (zt_Hr σ o) (σ 10) (σ 0 14) (σ 0 15) = 5 := by omega
            refine zr_iconst (pc := 89) hV 0 dX12_readGuard_89 rfl ?_
            have t61 := zx_g15 hσ81
            exact zr_zret (pc := 90) hV dX12_readGuard_90 rfl rfl (by omega) ⟨_, rfl, ⟨by decide, by decide⟩, hσ81, hFσ81, ⟨by omega, by omega, (by unfold zt_gR; rw [if_neg zt63, if_pos zgb]), (by unfold zt_gA; rw [if_neg zt63, if_pos zgb]; omega)⟩, (show (0 : Int) = 1 → σ81 3 o = zt_gK (σ 10) (σ 0 14) (σ 0 15) ∧ σ81 4 o = zt_gO (zt_Hr σ o) (σ 10) (σ 0 14) (σ 0 15) from (fun h => absurd h (by omega)))⟩
        · show V 75 [some (ZR 0), some (ZI o), some (ZI r65), none] [] 41 σ65
          have zgb : zt_gO (zt_Hr σ o) (σ 10) (σ 0 14) (σ 0 15) = -1 ∨ zt_gO (zt_Hr σ o) (σ 10) (σ 0 14) (σ 0 15) = 3 ∨ zt_gO (zt_Hr σ o) (σ 10) (σ 0 14) (σ 0 15) = 5 := by have := zt_ns_105 (H := (zt_Hr σ o)) (c := (zt_nx (σ 10) (σ 0 14) (zt_g2 (σ 10) (σ 0 14) (σ 0 15)))) (by omega); omega
          refine zr_iconst (pc := 75) hV (-1) dX12_readGuard_75 rfl ?_
          refine zr_goto (pc := 76) hV 84 dX12_readGuard_76 (by decide) ?_
          show V 84 [some (ZR 0), some (ZI o), some (ZI r65), none] [ZI (-1)] 41 σ65
          refine zr_istore_n (pc := 84) hV [some (ZR 0), some (ZI o), some (ZI r65), some (ZI (-1))] dX12_readGuard_84 rfl (by decide) rfl rfl ?_
          refine zr_iload_n (pc := 85) hV dX12_readGuard_85 rfl rfl ?_
          refine zr_if_ge (pc := 86) hV 91 dX12_readGuard_86 (by decide) ⟨by decide, by decide⟩ (fun c62 => ?_) (fun c62 => ?_)
          · exfalso; omega
          · show V 89 [some (ZR 0), some (ZI o), some (ZI r65), some (ZI (-1))] [] 41 σ65
            refine zr_iconst (pc := 89) hV 0 dX12_readGuard_89 rfl ?_
            have t63 := zx_g15 hσ65
            exact zr_zret (pc := 90) hV dX12_readGuard_90 rfl rfl (by omega) ⟨_, rfl, ⟨by decide, by decide⟩, hσ65, hFσ65, ⟨by omega, by omega, (by unfold zt_gR; rw [if_neg zt63, if_pos zgb]), (by unfold zt_gA; rw [if_neg zt63, if_pos zgb]; omega)⟩, (show (0 : Int) = 1 → σ65 3 o = zt_gK (σ 10) (σ 0 14) (σ 0 15) ∧ σ65 4 o = zt_gO (zt_Hr σ o) (σ 10) (σ 0 14) (σ 0 15) from (fun h => absurd h (by omega)))⟩
      · show V 54 [some (ZR 0), some (ZI o), none, none] [] 41 σ48
        have zy := zt_tk_y (t := σ 10) (n := σ 0 14) (c := 122) (a := (zt_g2 (σ 10) (σ 0 14) (σ 0 15))) (by omega)
        have zn4 : zt_ns (zt_Hr σ o) (zt_nx (σ 10) (σ 0 14) (zt_g2 (σ 10) (σ 0 14) (σ 0 15))) = 4 := zt_ns_z _ zy.1
        have zgb : ¬ (zt_gO (zt_Hr σ o) (σ 10) (σ 0 14) (σ 0 15) = -1 ∨ zt_gO (zt_Hr σ o) (σ 10) (σ 0 14) (σ 0 15) = 3 ∨ zt_gO (zt_Hr σ o) (σ 10) (σ 0 14) (σ 0 15) = 5) := by omega
        refine zr_aload_n (pc := 54) hV dX12_readGuard_54 rfl rfl ?_
        refine zr_getR (pc := 55) hV 7 4 dX12_readGuard_55 fX12_29 rfl rfl rfl (by decide) (zx_g7 hσ48) (by omega) ?_
        refine zr_iload_n (pc := 58) hV dX12_readGuard_58 rfl rfl ?_
        refine zr_iconst (pc := 59) hV 4 dX12_readGuard_59 rfl ?_
        refine zr_iast (pc := 60) hV dX12_readGuard_60 rfl (by decide) rfl (by omega) (fun σ60 eσ60 => ?_)
        have hσ60 : zx_T σ60 := zx_ua4 eσ60 hσ48 (by omega)
        have hFσ60 : ∀ a i : Int, (¬ (a = 0 ∧ i = 15) ∧ ¬ (a = 3 ∧ i = o) ∧ ¬ (a = 4 ∧ i = o)) → σ60 a i = σ a i := fun a i h => by rw [eσ60, zq_up_ne (fun q => h.2.2 ⟨q.1, by omega⟩)]; exact hFσ48 a i h
        refine zr_goto (pc := 61) hV 98 dX12_readGuard_61 (by decide) ?_
        show V 98 [some (ZR 0), some (ZI o), none, none] [] 41 σ60
        refine zr_aload_n (pc := 98) hV dX12_readGuard_98 rfl rfl ?_
        refine zr_bipush (pc := 99) hV 44 dX12_readGuard_99 (by decide) ?_
        refine zr_callVi (pc := 101) hV [ZI 44] (st := []) (c_X12_takes2 (σ := σ60) hσ60 44 (by omega)) dX12_readGuard_101 mX12_234 rfl (by decide) (by decide) (Nat.le_of_ble_eq_true rfl) (Nat.le_refl _) (fun r101 σ101 hr101 pσ101 => ?_)
        obtain ⟨hσ101, hfσ101, pσ101⟩ := pσ101
        have hFσ101 : ∀ a i : Int, (¬ (a = 0 ∧ i = 15) ∧ ¬ (a = 3 ∧ i = o) ∧ ¬ (a = 4 ∧ i = o)) → σ101 a i = σ a i := fun a i h => (hfσ101 a i h.1).trans (hFσ60 a i h)
        have t64 := zx_g14 hσ60
        have t65 : σ60 0 14 = σ48 0 14 := by rw [eσ60]; exact zq_up_ne (by omega)
        have t66 : σ48 0 14 = σ44 0 14 := hfσ48 _ _ (by omega)
        have t67 : σ44 0 14 = σ33 0 14 := by rw [eσ44]; exact zq_up_ne (by omega)
        have t68 : σ33 0 14 = σ17 0 14 := hfσ33 _ _ (by omega)
        have t69 : σ17 0 14 = σ13 0 14 := hfσ17 _ _ (by omega)
        have t70 : σ13 0 14 = σ6 0 14 := by rw [eσ13]; exact zq_up_ne (by omega)
        have t71 : σ6 0 14 = σ 0 14 := by rw [eσ6]; exact zq_up_ne (by omega)
        have t72 := zx_g15 hσ60
        have t73 : σ60 0 15 = σ48 0 15 := by rw [eσ60]; exact zq_up_ne (by omega)
        have Tσ60 : σ60 10 = σ 10 := funext (fun i => hFσ60 10 i (by omega))
        have Nσ60 : σ60 0 14 = σ 0 14 := hFσ60 0 14 (by omega)
        rw [Tσ60, Nσ60] at pσ101
        have t74 := zx_g15 hσ101
        rw [show σ60 0 15 = zt_sk (σ 10) (σ 0 14) (zt_g2 (σ 10) (σ 0 14) (σ 0 15)) + 1 by omega] at pσ101
        have t75 := zx_g15 hσ101
        exact zr_zret (pc := 104) hV dX12_readGuard_104 rfl rfl (by omega) ⟨_, rfl, (by omega), hσ101, hFσ101, ⟨by omega, by omega, (by unfold zt_gR; rw [if_neg zt63, if_neg zgb]; omega), (by unfold zt_gA; rw [if_neg zt63, if_neg zgb]; omega)⟩, (show r101 = 1 → σ101 3 o = zt_gK (σ 10) (σ 0 14) (σ 0 15) ∧ σ101 4 o = zt_gO (zt_Hr σ o) (σ 10) (σ 0 14) (σ 0 15) from (fun _ => ⟨by rw [hfσ101 3 _ (by omega), eσ60, zq_up_ne (by omega), hfσ48 3 _ (by omega), eσ44, zq_up_same]; omega, by rw [hfσ101 4 _ (by omega), eσ60, zq_up_same]; omega⟩))⟩
    · show V 39 [some (ZR 0), some (ZI o), none, none] [ZI o, ZR 3] 41 σ33
      refine zr_iconst (pc := 39) hV 2 dX12_readGuard_39 rfl ?_
      refine zr_goto (pc := 40) hV 44 dX12_readGuard_40 (by decide) ?_
      show V 44 [some (ZR 0), some (ZI o), none, none] [ZI 2, ZI o, ZR 3] 41 σ33
      refine zr_iast (pc := 44) hV dX12_readGuard_44 rfl (by decide) rfl (by omega) (fun σ44 eσ44 => ?_)
      have hσ44 : zx_T σ44 := zx_ua3 eσ44 hσ33 (by omega)
      have hFσ44 : ∀ a i : Int, (¬ (a = 0 ∧ i = 15) ∧ ¬ (a = 3 ∧ i = o) ∧ ¬ (a = 4 ∧ i = o)) → σ44 a i = σ a i := fun a i h => by rw [eσ44, zq_up_ne (fun q => h.2.1 ⟨q.1, by omega⟩)]; exact hFσ33 a i h
      have z44 : σ44 0 15 = σ33 0 15 := by rw [eσ44]; exact zq_up_ne (by omega)
      have zg2 : σ44 0 15 = (zt_g2 (σ 10) (σ 0 14) (σ 0 15)) := by unfold zt_g2; omega
      have zgk : zt_gK (σ 10) (σ 0 14) (σ 0 15) = 2 := by unfold zt_gK; rw [if_neg (by omega), if_neg (by omega)]
      have zgo : zt_gO (zt_Hr σ o) (σ 10) (σ 0 14) (σ 0 15) = zt_ns (zt_Hr σ o) (zt_nx (σ 10) (σ 0 14) (zt_g2 (σ 10) (σ 0 14) (σ 0 15))) := by unfold zt_gO; rw [if_neg (by omega)]
      have zt63 : ¬ zt_tkR (σ 10) (σ 0 14) 63 (σ 0 15) = 0 := by omega
      refine zr_aload_n (pc := 45) hV dX12_readGuard_45 rfl rfl ?_
      refine zr_bipush (pc := 46) hV 122 dX12_readGuard_46 (by decide) ?_
      refine zr_callVi (pc := 48) hV [ZI 122] (st := []) (c_X12_takes2 (σ := σ44) hσ44 122 (by omega)) dX12_readGuard_48 mX12_234 rfl (by decide) (by decide) (Nat.le_of_ble_eq_true rfl) (Nat.le_refl _) (fun r48 σ48 hr48 pσ48 => ?_)
      obtain ⟨hσ48, hfσ48, pσ48⟩ := pσ48
      have hFσ48 : ∀ a i : Int, (¬ (a = 0 ∧ i = 15) ∧ ¬ (a = 3 ∧ i = o) ∧ ¬ (a = 4 ∧ i = o)) → σ48 a i = σ a i := fun a i h => (hfσ48 a i h.1).trans (hFσ44 a i h)
      have t76 := zx_g14 hσ44
      have t77 : σ44 0 14 = σ33 0 14 := by rw [eσ44]; exact zq_up_ne (by omega)
      have t78 : σ33 0 14 = σ17 0 14 := hfσ33 _ _ (by omega)
      have t79 : σ17 0 14 = σ13 0 14 := hfσ17 _ _ (by omega)
      have t80 : σ13 0 14 = σ6 0 14 := by rw [eσ13]; exact zq_up_ne (by omega)
      have t81 : σ6 0 14 = σ 0 14 := by rw [eσ6]; exact zq_up_ne (by omega)
      have t82 := zx_g15 hσ44
      have t83 : σ44 0 15 = σ33 0 15 := by rw [eσ44]; exact zq_up_ne (by omega)
      have Tσ44 : σ44 10 = σ 10 := funext (fun i => hFσ44 10 i (by omega))
      have Nσ44 : σ44 0 14 = σ 0 14 := hFσ44 0 14 (by omega)
      rw [Tσ44, Nσ44] at pσ48
      have t84 := zx_g15 hσ48
      rw [zg2] at pσ48
      refine zr_if_eq (pc := 51) hV 64 dX12_readGuard_51 (by decide) (by omega) (fun c85 => ?_) (fun c85 => ?_)
      · show V 64 [some (ZR 0), some (ZI o), none, none] [] 41 σ48
        have zn := zt_tk_n (t := σ 10) (n := σ 0 14) (c := 122) (a := (zt_g2 (σ 10) (σ 0 14) (σ 0 15))) (by omega)
        refine zr_aload_n (pc := 64) hV dX12_readGuard_64 rfl rfl ?_
        refine zr_callVi (pc := 65) hV [] (st := []) (c_X12_next2 (σ := σ48) hσ48 ) dX12_readGuard_65 mX12_203 rfl (by decide) (by decide) (Nat.le_of_ble_eq_true rfl) (Nat.le_refl _) (fun r65 σ65 hr65 pσ65 => ?_)
        obtain ⟨hσ65, hfσ65, pσ65⟩ := pσ65
        have hFσ65 : ∀ a i : Int, (¬ (a = 0 ∧ i = 15) ∧ ¬ (a = 3 ∧ i = o) ∧ ¬ (a = 4 ∧ i = o)) → σ65 a i = σ a i := fun a i h => (hfσ65 a i h.1).trans (hFσ48 a i h)
        have t86 := zx_g14 hσ48
        have t87 : σ48 0 14 = σ44 0 14 := hfσ48 _ _ (by omega)
        have t88 : σ44 0 14 = σ33 0 14 := by rw [eσ44]; exact zq_up_ne (by omega)
        have t89 : σ33 0 14 = σ17 0 14 := hfσ33 _ _ (by omega)
        have t90 : σ17 0 14 = σ13 0 14 := hfσ17 _ _ (by omega)
        have t91 : σ13 0 14 = σ6 0 14 := by rw [eσ13]; exact zq_up_ne (by omega)
        have t92 : σ6 0 14 = σ 0 14 := by rw [eσ6]; exact zq_up_ne (by omega)
        have t93 := zx_g15 hσ48
        have Tσ48 : σ48 10 = σ 10 := funext (fun i => hFσ48 10 i (by omega))
        have Nσ48 : σ48 0 14 = σ 0 14 := hFσ48 0 14 (by omega)
        rw [Tσ48, Nσ48] at pσ65
        have t94 := zx_g15 hσ65
        rw [show σ48 0 15 = zt_sk (σ 10) (σ 0 14) (zt_g2 (σ 10) (σ 0 14) (σ 0 15)) by omega, zt_sk_i, zt_nx_i] at pσ65
        refine zr_istore_n (pc := 68) hV [some (ZR 0), some (ZI o), some (ZI r65), none] dX12_readGuard_68 rfl (by decide) rfl rfl ?_
        refine zr_iload_n (pc := 69) hV dX12_readGuard_69 rfl rfl ?_
        refine zr_bipush (pc := 70) hV 105 dX12_readGuard_70 (by decide) ?_
        refine zr_icmp_ne (pc := 72) hV 79 dX12_readGuard_72 (by decide) (by omega) ⟨by decide, by decide⟩ (fun c95 => ?_) (fun c95 => ?_)
        · show V 79 [some (ZR 0), some (ZI o), some (ZI r65), none] [] 41 σ65
          refine zr_aload_n (pc := 79) hV dX12_readGuard_79 rfl rfl ?_
          refine zr_iload_n (pc := 80) hV dX12_readGuard_80 rfl rfl ?_
          refine zr_callVi (pc := 81) hV [ZI o] (st := []) (c_X12_readField2 (σ := σ65) hσ65 o (by omega)) dX12_readGuard_81 mX12_231 rfl (by decide) (by decide) (Nat.le_of_ble_eq_true rfl) (Nat.le_refl _) (fun r81 σ81 hr81 pσ81 => ?_)
          obtain ⟨hσ81, hfσ81, pσ81⟩ := pσ81
          have hFσ81 : ∀ a i : Int, (¬ (a = 0 ∧ i = 15) ∧ ¬ (a = 3 ∧ i = o) ∧ ¬ (a = 4 ∧ i = o)) → σ81 a i = σ a i := fun a i h => (hfσ81 a i h.1).trans (hFσ65 a i h)
          have t96 := zx_g14 hσ65
          have t97 : σ65 0 14 = σ48 0 14 := hfσ65 _ _ (by omega)
          have t98 : σ48 0 14 = σ44 0 14 := hfσ48 _ _ (by omega)
          have t99 : σ44 0 14 = σ33 0 14 := by rw [eσ44]; exact zq_up_ne (by omega)
          have t100 : σ33 0 14 = σ17 0 14 := hfσ33 _ _ (by omega)
          have t101 : σ17 0 14 = σ13 0 14 := hfσ17 _ _ (by omega)
          have t102 : σ13 0 14 = σ6 0 14 := by rw [eσ13]; exact zq_up_ne (by omega)
          have t103 : σ6 0 14 = σ 0 14 := by rw [eσ6]; exact zq_up_ne (by omega)
          have t104 := zx_g15 hσ65
          have Tσ65 : σ65 10 = σ 10 := funext (fun i => hFσ65 10 i (by omega))
          have Nσ65 : σ65 0 14 = σ 0 14 := hFσ65 0 14 (by omega)
          have Hσ65 : zt_Hr σ65 o = zt_Hr σ o := zt_Hr_fr (fun i => hFσ65 2 i (by omega)) (hFσ65 0 2 (by omega))
          rw [Tσ65, Nσ65, Hσ65] at pσ81
          have t105 := zx_g15 hσ81
          show V 84 [some (ZR 0), some (ZI o), some (ZI r65), none] [ZI r81] 41 σ81
          rw [show σ65 0 15 = zt_sk (σ 10) (σ 0 14) (zt_g2 (σ 10) (σ 0 14) (σ 0 15)) by omega, zt_nx_i, zt_sk_i] at pσ81
          have zq5 := zt_ns_q (H := (zt_Hr σ o)) (c := (zt_nx (σ 10) (σ 0 14) (zt_g2 (σ 10) (σ 0 14) (σ 0 15)))) zn.1
          refine zr_istore_n (pc := 84) hV [some (ZR 0), some (ZI o), some (ZI r65), some (ZI r81)] dX12_readGuard_84 rfl (by decide) rfl rfl ?_
          refine zr_iload_n (pc := 85) hV dX12_readGuard_85 rfl rfl ?_
          refine zr_if_ge (pc := 86) hV 91 dX12_readGuard_86 (by decide) (by omega) (fun c106 => ?_) (fun c106 => ?_)
          · show V 91 [some (ZR 0), some (ZI o), some (ZI r65), some (ZI r81)] [] 41 σ81
            have zn4 : zt_ns (zt_Hr σ o) (zt_nx (σ 10) (σ 0 14) (zt_g2 (σ 10) (σ 0 14) (σ 0 15))) = r81 := by omega
            have zgb : ¬ (zt_gO (zt_Hr σ o) (σ 10) (σ 0 14) (σ 0 15) = -1 ∨ zt_gO (zt_Hr σ o) (σ 10) (σ 0 14) (σ 0 15) = 3 ∨ zt_gO (zt_Hr σ o) (σ 10) (σ 0 14) (σ 0 15) = 5) := by omega
            refine zr_aload_n (pc := 91) hV dX12_readGuard_91 rfl rfl ?_
            refine zr_getR (pc := 92) hV 7 4 dX12_readGuard_92 fX12_29 rfl rfl rfl (by decide) (zx_g7 hσ81) (by omega) ?_
            refine zr_iload_n (pc := 95) hV dX12_readGuard_95 rfl rfl ?_
            refine zr_iload_n (pc := 96) hV dX12_readGuard_96 rfl rfl ?_
            refine zr_iast (pc := 97) hV dX12_readGuard_97 rfl (by decide) rfl (by omega) (fun σ97 eσ97 => ?_)
            have hσ97 : zx_T σ97 := zx_ua4 eσ97 hσ81 (by omega)
            have hFσ97 : ∀ a i : Int, (¬ (a = 0 ∧ i = 15) ∧ ¬ (a = 3 ∧ i = o) ∧ ¬ (a = 4 ∧ i = o)) → σ97 a i = σ a i := fun a i h => by rw [eσ97, zq_up_ne (fun q => h.2.2 ⟨q.1, by omega⟩)]; exact hFσ81 a i h
            show V 98 [some (ZR 0), some (ZI o), some (ZI r65), some (ZI r81)] [] 41 σ97
            refine zr_aload_n (pc := 98) hV dX12_readGuard_98 rfl rfl ?_
            refine zr_bipush (pc := 99) hV 44 dX12_readGuard_99 (by decide) ?_
            refine zr_callVi (pc := 101) hV [ZI 44] (st := []) (c_X12_takes2 (σ := σ97) hσ97 44 (by omega)) dX12_readGuard_101 mX12_234 rfl (by decide) (by decide) (Nat.le_of_ble_eq_true rfl) (Nat.le_refl _) (fun r101 σ101 hr101 pσ101 => ?_)
            obtain ⟨hσ101, hfσ101, pσ101⟩ := pσ101
            have hFσ101 : ∀ a i : Int, (¬ (a = 0 ∧ i = 15) ∧ ¬ (a = 3 ∧ i = o) ∧ ¬ (a = 4 ∧ i = o)) → σ101 a i = σ a i := fun a i h => (hfσ101 a i h.1).trans (hFσ97 a i h)
            have t107 := zx_g14 hσ97
            have t108 : σ97 0 14 = σ81 0 14 := by rw [eσ97]; exact zq_up_ne (by omega)
            have t109 : σ81 0 14 = σ65 0 14 := hfσ81 _ _ (by omega)
            have t110 : σ65 0 14 = σ48 0 14 := hfσ65 _ _ (by omega)
            have t111 : σ48 0 14 = σ44 0 14 := hfσ48 _ _ (by omega)
            have t112 : σ44 0 14 = σ33 0 14 := by rw [eσ44]; exact zq_up_ne (by omega)
            have t113 : σ33 0 14 = σ17 0 14 := hfσ33 _ _ (by omega)
            have t114 : σ17 0 14 = σ13 0 14 := hfσ17 _ _ (by omega)
            have t115 : σ13 0 14 = σ6 0 14 := by rw [eσ13]; exact zq_up_ne (by omega)
            have t116 : σ6 0 14 = σ 0 14 := by rw [eσ6]; exact zq_up_ne (by omega)
            have t117 := zx_g15 hσ97
            have t118 : σ97 0 15 = σ81 0 15 := by rw [eσ97]; exact zq_up_ne (by omega)
            have Tσ97 : σ97 10 = σ 10 := funext (fun i => hFσ97 10 i (by omega))
            have Nσ97 : σ97 0 14 = σ 0 14 := hFσ97 0 14 (by omega)
            rw [Tσ97, Nσ97] at pσ101
            have t119 := zx_g15 hσ101
            rw [show σ97 0 15 = zt_sk (σ 10) (σ 0 14) (zt_g2 (σ 10) (σ 0 14) (σ 0 15)) + 1 by omega] at pσ101
            have t120 := zx_g15 hσ101
            exact zr_zret (pc := 104) hV dX12_readGuard_104 rfl rfl (by omega) ⟨_, rfl, (by omega), hσ101, hFσ101, ⟨by omega, by omega, (by unfold zt_gR; rw [if_neg zt63, if_neg zgb]; omega), (by unfold zt_gA; rw [if_neg zt63, if_neg zgb]; omega)⟩, (show r101 = 1 → σ101 3 o = zt_gK (σ 10) (σ 0 14) (σ 0 15) ∧ σ101 4 o = zt_gO (zt_Hr σ o) (σ 10) (σ 0 14) (σ 0 15) from (fun _ => ⟨by rw [hfσ101 3 _ (by omega), eσ97, zq_up_ne (by omega), hfσ81 3 _ (by omega), hfσ65 3 _ (by omega), hfσ48 3 _ (by omega), eσ44, zq_up_same]; omega, by rw [hfσ101 4 _ (by omega), eσ97, zq_up_same]; omega⟩))⟩
          · show V 89 [some (ZR 0), some (ZI o), some (ZI r65), some (ZI r81)] [] 41 σ81
            have zgb : zt_gO (zt_Hr σ o) (σ 10) (σ 0 14) (σ 0 15) = -1 ∨ zt_gO (zt_Hr σ o) (σ 10) (σ 0 14) (σ 0 15) = 3 ∨ zt_gO (zt_Hr σ o) (σ 10) (σ 0 14) (σ 0 15) = 5 := by omega
            refine zr_iconst (pc := 89) hV 0 dX12_readGuard_89 rfl ?_
            have t121 := zx_g15 hσ81
            exact zr_zret (pc := 90) hV dX12_readGuard_90 rfl rfl (by omega) ⟨_, rfl, ⟨by decide, by decide⟩, hσ81, hFσ81, ⟨by omega, by omega, (by unfold zt_gR; rw [if_neg zt63, if_pos zgb]), (by unfold zt_gA; rw [if_neg zt63, if_pos zgb]; omega)⟩, (show (0 : Int) = 1 → σ81 3 o = zt_gK (σ 10) (σ 0 14) (σ 0 15) ∧ σ81 4 o = zt_gO (zt_Hr σ o) (σ 10) (σ 0 14) (σ 0 15) from (fun h => absurd h (by omega)))⟩
        · show V 75 [some (ZR 0), some (ZI o), some (ZI r65), none] [] 41 σ65
          have zgb : zt_gO (zt_Hr σ o) (σ 10) (σ 0 14) (σ 0 15) = -1 ∨ zt_gO (zt_Hr σ o) (σ 10) (σ 0 14) (σ 0 15) = 3 ∨ zt_gO (zt_Hr σ o) (σ 10) (σ 0 14) (σ 0 15) = 5 := by have := zt_ns_105 (H := (zt_Hr σ o)) (c := (zt_nx (σ 10) (σ 0 14) (zt_g2 (σ 10) (σ 0 14) (σ 0 15)))) (by omega); omega
          refine zr_iconst (pc := 75) hV (-1) dX12_readGuard_75 rfl ?_
          refine zr_goto (pc := 76) hV 84 dX12_readGuard_76 (by decide) ?_
          show V 84 [some (ZR 0), some (ZI o), some (ZI r65), none] [ZI (-1)] 41 σ65
          refine zr_istore_n (pc := 84) hV [some (ZR 0), some (ZI o), some (ZI r65), some (ZI (-1))] dX12_readGuard_84 rfl (by decide) rfl rfl ?_
          refine zr_iload_n (pc := 85) hV dX12_readGuard_85 rfl rfl ?_
          refine zr_if_ge (pc := 86) hV 91 dX12_readGuard_86 (by decide) ⟨by decide, by decide⟩ (fun c122 => ?_) (fun c122 => ?_)
          · exfalso; omega
          · show V 89 [some (ZR 0), some (ZI o), some (ZI r65), some (ZI (-1))] [] 41 σ65
            refine zr_iconst (pc := 89) hV 0 dX12_readGuard_89 rfl ?_
            have t123 := zx_g15 hσ65
            exact zr_zret (pc := 90) hV dX12_readGuard_90 rfl rfl (by omega) ⟨_, rfl, ⟨by decide, by decide⟩, hσ65, hFσ65, ⟨by omega, by omega, (by unfold zt_gR; rw [if_neg zt63, if_pos zgb]), (by unfold zt_gA; rw [if_neg zt63, if_pos zgb]; omega)⟩, (show (0 : Int) = 1 → σ65 3 o = zt_gK (σ 10) (σ 0 14) (σ 0 15) ∧ σ65 4 o = zt_gO (zt_Hr σ o) (σ 10) (σ 0 14) (σ 0 15) from (fun h => absurd h (by omega)))⟩
      · show V 54 [some (ZR 0), some (ZI o), none, none] [] 41 σ48
        have zy := zt_tk_y (t := σ 10) (n := σ 0 14) (c := 122) (a := (zt_g2 (σ 10) (σ 0 14) (σ 0 15))) (by omega)
        have zn4 : zt_ns (zt_Hr σ o) (zt_nx (σ 10) (σ 0 14) (zt_g2 (σ 10) (σ 0 14) (σ 0 15))) = 4 := zt_ns_z _ zy.1
        have zgb : ¬ (zt_gO (zt_Hr σ o) (σ 10) (σ 0 14) (σ 0 15) = -1 ∨ zt_gO (zt_Hr σ o) (σ 10) (σ 0 14) (σ 0 15) = 3 ∨ zt_gO (zt_Hr σ o) (σ 10) (σ 0 14) (σ 0 15) = 5) := by omega
        refine zr_aload_n (pc := 54) hV dX12_readGuard_54 rfl rfl ?_
        refine zr_getR (pc := 55) hV 7 4 dX12_readGuard_55 fX12_29 rfl rfl rfl (by decide) (zx_g7 hσ48) (by omega) ?_
        refine zr_iload_n (pc := 58) hV dX12_readGuard_58 rfl rfl ?_
        refine zr_iconst (pc := 59) hV 4 dX12_readGuard_59 rfl ?_
        refine zr_iast (pc := 60) hV dX12_readGuard_60 rfl (by decide) rfl (by omega) (fun σ60 eσ60 => ?_)
        have hσ60 : zx_T σ60 := zx_ua4 eσ60 hσ48 (by omega)
        have hFσ60 : ∀ a i : Int, (¬ (a = 0 ∧ i = 15) ∧ ¬ (a = 3 ∧ i = o) ∧ ¬ (a = 4 ∧ i = o)) → σ60 a i = σ a i := fun a i h => by rw [eσ60, zq_up_ne (fun q => h.2.2 ⟨q.1, by omega⟩)]; exact hFσ48 a i h
        refine zr_goto (pc := 61) hV 98 dX12_readGuard_61 (by decide) ?_
        show V 98 [some (ZR 0), some (ZI o), none, none] [] 41 σ60
        refine zr_aload_n (pc := 98) hV dX12_readGuard_98 rfl rfl ?_
        refine zr_bipush (pc := 99) hV 44 dX12_readGuard_99 (by decide) ?_
        refine zr_callVi (pc := 101) hV [ZI 44] (st := []) (c_X12_takes2 (σ := σ60) hσ60 44 (by omega)) dX12_readGuard_101 mX12_234 rfl (by decide) (by decide) (Nat.le_of_ble_eq_true rfl) (Nat.le_refl _) (fun r101 σ101 hr101 pσ101 => ?_)
        obtain ⟨hσ101, hfσ101, pσ101⟩ := pσ101
        have hFσ101 : ∀ a i : Int, (¬ (a = 0 ∧ i = 15) ∧ ¬ (a = 3 ∧ i = o) ∧ ¬ (a = 4 ∧ i = o)) → σ101 a i = σ a i := fun a i h => (hfσ101 a i h.1).trans (hFσ60 a i h)
        have t124 := zx_g14 hσ60
        have t125 : σ60 0 14 = σ48 0 14 := by rw [eσ60]; exact zq_up_ne (by omega)
        have t126 : σ48 0 14 = σ44 0 14 := hfσ48 _ _ (by omega)
        have t127 : σ44 0 14 = σ33 0 14 := by rw [eσ44]; exact zq_up_ne (by omega)
        have t128 : σ33 0 14 = σ17 0 14 := hfσ33 _ _ (by omega)
        have t129 : σ17 0 14 = σ13 0 14 := hfσ17 _ _ (by omega)
        have t130 : σ13 0 14 = σ6 0 14 := by rw [eσ13]; exact zq_up_ne (by omega)
        have t131 : σ6 0 14 = σ 0 14 := by rw [eσ6]; exact zq_up_ne (by omega)
        have t132 := zx_g15 hσ60
        have t133 : σ60 0 15 = σ48 0 15 := by rw [eσ60]; exact zq_up_ne (by omega)
        have Tσ60 : σ60 10 = σ 10 := funext (fun i => hFσ60 10 i (by omega))
        have Nσ60 : σ60 0 14 = σ 0 14 := hFσ60 0 14 (by omega)
        rw [Tσ60, Nσ60] at pσ101
        have t134 := zx_g15 hσ101
        rw [show σ60 0 15 = zt_sk (σ 10) (σ 0 14) (zt_g2 (σ 10) (σ 0 14) (σ 0 15)) + 1 by omega] at pσ101
        have t135 := zx_g15 hσ101
        exact zr_zret (pc := 104) hV dX12_readGuard_104 rfl rfl (by omega) ⟨_, rfl, (by omega), hσ101, hFσ101, ⟨by omega, by omega, (by unfold zt_gR; rw [if_neg zt63, if_neg zgb]; omega), (by unfold zt_gA; rw [if_neg zt63, if_neg zgb]; omega)⟩, (show r101 = 1 → σ101 3 o = zt_gK (σ 10) (σ 0 14) (σ 0 15) ∧ σ101 4 o = zt_gO (zt_Hr σ o) (σ 10) (σ 0 14) (σ 0 15) from (fun _ => ⟨by rw [hfσ101 3 _ (by omega), eσ60, zq_up_ne (by omega), hfσ48 3 _ (by omega), eσ44, zq_up_same]; omega, by rw [hfσ101 4 _ (by omega), eσ60, zq_up_same]; omega⟩))⟩
  · show V 23 [some (ZR 0), some (ZI o), none, none] [] 41 σ17
    refine zr_iconst (pc := 23) hV 1 dX12_readGuard_23 rfl ?_
    have t136 := zx_g15 hσ17
    exact zr_zret (pc := 24) hV dX12_readGuard_24 rfl rfl (by omega) ⟨_, rfl, ⟨by decide, by decide⟩, hσ17, hFσ17, ⟨by omega, by omega, (by unfold zt_gR; rw [if_pos (by omega)]), (by unfold zt_gA; rw [if_pos (by omega)]; omega)⟩, (show (1 : Int) = 1 → σ17 3 o = zt_gK (σ 10) (σ 0 14) (σ 0 15) ∧ σ17 4 o = zt_gO (zt_Hr σ o) (σ 10) (σ 0 14) (σ 0 15) from (fun _ => ⟨by rw [hfσ17 3 _ (by omega), eσ13, zq_up_ne (by omega), eσ6, zq_up_same]; unfold zt_gK; rw [if_pos (by omega)], by rw [hfσ17 4 _ (by omega), eσ13, zq_up_same]; unfold zt_gO; rw [if_pos (by omega)]⟩))⟩
