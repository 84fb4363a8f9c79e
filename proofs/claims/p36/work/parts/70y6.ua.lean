set_option maxHeartbeats 800000 in
theorem c_X1_readSum_2 {σ : zq_S} (hσ : zc_T σ)   (Uσ : zc_U σ) : zq_C zc_w yX1_readSum cX1_readSum 3 (some .boolean) 4 94 284 284 [ZR 255, ZR 1] σ (zq_pi (fun r τ => zc_T τ ∧ zc_Fr [(1, 2), (1, 3), (255, 1), (255, 2), (255, 3), (256, 5), (256, 6), (256, 9), (257, -1), (258, -1), (259, -1), (260, -1), (262, -1), (263, -1)] σ τ ∧ ((0 ≤ r ∧ r ≤ 1)) ∧ zq_hid (zs_E (σ 2) (σ 1 1) (σ 255 4) (zx_p2 (σ 3 0) - 1) r τ (σ 255 2) ∧ (r = 1 → τ 255 3 = 1 ∧ τ 255 1 = σ 255 2) ∧ (r = 0 → τ 255 3 = σ 255 3 ∧ τ 255 1 = σ 255 1 ∧ zs_sm σ τ (σ 255 1))) ∧ zc_U τ)) := by
  refine zq_C_of (by decide) (Nat.le_refl _) (Nat.le_of_ble_eq_true rfl) [some (ZR 255), some (ZR 1), none] rfl (fun V hV => ?_)
  have hFσ := zc_Fr_rf [(1, 2), (1, 3), (255, 1), (255, 2), (255, 3), (256, 5), (256, 6), (256, 9), (257, -1), (258, -1), (259, -1), (260, -1), (262, -1), (263, -1)] σ
  show V 0 [some (ZR 255), some (ZR 1), none] [] 284 σ
  refine zr_aload_n (pc := 0) hV dX1_readSum_0 rfl rfl ?_
  obtain ⟨o1, eo1⟩ : ∃ o, σ 255 2 = o := ⟨_, rfl⟩
  have ko1 : zc_kd o1 = 256 := eo1 ▸ zc_g255_2 hσ zc_s255
  have po1 := zc_pos ko1 rfl
  refine zr_getR (pc := 1) hV 2 o1 dX1_readSum_1 fX1_18 rfl rfl (zc_k255 zc_s255) (zc_pos zc_s255 rfl) (by omega) (zc_pos ko1 rfl).1 ?_
  refine zr_aload_n (pc := 4) hV dX1_readSum_4 rfl rfl ?_
  refine zr_aload_n (pc := 5) hV dX1_readSum_5 rfl rfl ?_
  refine zr_getI (pc := 6) hV 4 dX1_readSum_6 fX1_38 rfl rfl (zc_k255 zc_s255) (zc_pos zc_s255 rfl) ?_
  have t1 := zc_g255_4 hσ zc_s255
  refine zr_aload_n (pc := 9) hV dX1_readSum_9 rfl rfl ?_
  refine zr_getR (pc := 10) hV 0 3 dX1_readSum_10 fX1_34 rfl rfl (zc_k255 zc_s255) (zc_pos zc_s255 rfl) (zc_g255_0 hσ zc_s255) (by decide) ?_
  refine zr_callVp (pc := 13) hV [] (st := [ZI (σ 255 4), ZR 1, ZR o1]) (c_X9_wordMask_3 (σ := σ) hσ) dX1_readSum_13 mX1_46 (zc_k3 zc_s3) (zc_pos zc_s3 rfl) (by decide) (Nat.le_of_ble_eq_true rfl) (Nat.le_refl _) (fun r13 hr13 pr13 => ?_)
  have t2 := zc_g3_0 hσ zc_s3
  have t3 := zc_g255_4 hσ zc_s255
  refine zr_callVi (pc := 16) hV [ZR 1, ZI (σ 255 4), ZI r13] (st := []) (c_X7_readFrom_2 (σ := σ) hσ o1 ko1 (σ 255 4) r13 (by omega) (by omega)) dX1_readSum_16 mX1_52 (zc_k256 ko1) (zc_pos ko1 rfl) (by decide) (Nat.le_of_ble_eq_true rfl) (Nat.le_refl _) (fun r16 σ16 hr16 pσ16 => ?_)
  obtain ⟨hσ16, hfσ16, hoσ16, pσ16, wσ16⟩ := pσ16
  have hFσ16 := zc_Fc hfσ16 rfl hFσ
  have Uσ16 : zc_U σ16 := zc_U_own hσ hfσ16 rfl (by rw [eo1]; exact hoσ16) Uσ
  have t4 := zc_g1_1 hσ zc_s1
  have t5 := zc_g255_4 hσ zc_s255
  have t6 := zc_g256_5 hσ16 ko1
  rw [show r13 = zx_p2 (σ 3 0) - 1 by omega] at wσ16
  refine zr_if_ne (pc := 19) hV 24 dX1_readSum_19 (by decide) (by omega) (fun c7 => ?_) (fun c7 => ?_)
  · show V 24 [some (ZR 255), some (ZR 1), none] [] 284 σ16
    refine zr_aload_n (pc := 24) hV dX1_readSum_24 rfl rfl ?_
    have t8 : σ16 255 2 = σ 255 2 := hfσ16 _ _ (zc_out_at zc_s255 rfl)
    refine zr_getR (pc := 25) hV 2 o1 dX1_readSum_25 fX1_18 rfl rfl (zc_k255 zc_s255) (zc_pos zc_s255 rfl) (by omega) (zc_pos ko1 rfl).1 ?_
    refine zr_astore_n (pc := 28) hV [some (ZR 255), some (ZR 1), some (ZR o1)] dX1_readSum_28 rfl (by decide) rfl rfl ?_
    refine zr_aload_n (pc := 29) hV dX1_readSum_29 rfl rfl ?_
    refine zr_aload_n (pc := 30) hV dX1_readSum_30 rfl rfl ?_
    have t9 : σ16 255 1 = σ 255 1 := hfσ16 _ _ (zc_out_at zc_s255 rfl)
    obtain ⟨o31, eo31⟩ : ∃ o, σ 255 1 = o := ⟨_, rfl⟩
    have ko31 : zc_kd o31 = 256 := eo31 ▸ zc_g255_1 hσ zc_s255
    have po31 := zc_pos ko31 rfl
    refine zr_getR (pc := 31) hV 1 o31 dX1_readSum_31 fX1_12 rfl rfl (zc_k255 zc_s255) (zc_pos zc_s255 rfl) (by omega) (zc_pos ko31 rfl).1 ?_
    refine zr_putR (pc := 34) hV 2 dX1_readSum_34 fX1_18 rfl (Or.inl rfl) rfl (zc_pos ko31 rfl).1 (zc_k255 zc_s255) (zc_pos zc_s255 rfl) (fun σ34 eσ34 => ?_)
    have hσ34 : zc_T σ34 := zc_u255_2 eσ34 hσ16 zc_s255 ko31
    have hFσ34 := zc_Fw eσ34 zc_s255 rfl hFσ16
    refine zr_aload_n (pc := 37) hV dX1_readSum_37 rfl rfl ?_
    refine zr_aload_n (pc := 38) hV dX1_readSum_38 rfl rfl ?_
    refine zr_putR (pc := 39) hV 1 dX1_readSum_39 fX1_12 rfl (Or.inl rfl) rfl (zc_pos ko1 rfl).1 (zc_k255 zc_s255) (zc_pos zc_s255 rfl) (fun σ39 eσ39 => ?_)
    have hσ39 : zc_T σ39 := zc_u255_1 eσ39 hσ34 zc_s255 ko1
    have hFσ39 := zc_Fw eσ39 zc_s255 rfl hFσ34
    refine zr_aload_n (pc := 42) hV dX1_readSum_42 rfl rfl ?_
    refine zr_iconst (pc := 43) hV 1 dX1_readSum_43 rfl ?_
    refine zr_putZ (pc := 44) hV 3 dX1_readSum_44 fX1_42 rfl rfl rfl (by omega) (zc_k255 zc_s255) (zc_pos zc_s255 rfl) (fun σ44 eσ44 => ?_)
    have hσ44 : zc_T σ44 := zc_u255_3 eσ44 hσ39 zc_s255 (by omega)
    have hFσ44 := zc_Fw eσ44 zc_s255 rfl hFσ39
    have Uσ44 : zc_U σ44 := zc_U_swap eσ34 eσ39 eσ44 ko1 (by have := Uσ.1; omega) (by omega)
    refine zr_iconst (pc := 47) hV 1 dX1_readSum_47 rfl ?_
    have t10 := zc_g255_3 hσ44 zc_s255
    have t11 : σ44 255 3 = 1 := by rw [eσ44]; exact zq_up_same _ _ _ _
    exact zr_zret (pc := 48) hV dX1_readSum_48 rfl rfl (by omega) ⟨_, rfl, ⟨by decide, by decide⟩, hσ44, hFσ44, (by omega), (show zs_E (σ 2) (σ 1 1) (σ 255 4) (zx_p2 (σ 3 0) - 1) (1 : Int) σ44 (σ 255 2) ∧ ((1 : Int) = 1 → σ44 255 3 = 1 ∧ σ44 255 1 = σ 255 2) ∧ ((1 : Int) = 0 → σ44 255 3 = σ 255 3 ∧ σ44 255 1 = σ 255 1 ∧ zs_sm σ σ44 (σ 255 1)) from ⟨by rw [eo1]; exact zs_E_fr (by omega) ⟨(by rw [eσ44, zq_up_ne (by first | omega | exact zc_dk ko1 zc_s255 rfl), eσ39, zq_up_ne (by first | omega | exact zc_dk ko1 zc_s255 rfl), eσ34, zq_up_ne (by first | omega | exact zc_dk ko1 zc_s255 rfl)]), (by rw [eσ44, zq_up_ne (by first | omega | exact zc_dk ko1 zc_s255 rfl), eσ39, zq_up_ne (by first | omega | exact zc_dk ko1 zc_s255 rfl), eσ34, zq_up_ne (by first | omega | exact zc_dk ko1 zc_s255 rfl)]), (fun i => by rw [eσ44, zq_up_ne (by first | omega | exact zc_dk (zc_p256_1 ko1) zc_s255 rfl), eσ39, zq_up_ne (by first | omega | exact zc_dk (zc_p256_1 ko1) zc_s255 rfl), eσ34, zq_up_ne (by first | omega | exact zc_dk (zc_p256_1 ko1) zc_s255 rfl)]), (fun i => by rw [eσ44, zq_up_ne (by first | omega | exact zc_dk (zc_p256_2 ko1) zc_s255 rfl), eσ39, zq_up_ne (by first | omega | exact zc_dk (zc_p256_2 ko1) zc_s255 rfl), eσ34, zq_up_ne (by first | omega | exact zc_dk (zc_p256_2 ko1) zc_s255 rfl)]), (fun i => by rw [eσ44, zq_up_ne (by first | omega | exact zc_dk (zc_p256_3 ko1) zc_s255 rfl), eσ39, zq_up_ne (by first | omega | exact zc_dk (zc_p256_3 ko1) zc_s255 rfl), eσ34, zq_up_ne (by first | omega | exact zc_dk (zc_p256_3 ko1) zc_s255 rfl)]), (fun i => by rw [eσ44, zq_up_ne (by first | omega | exact zc_dk (zc_p256_4 ko1) zc_s255 rfl), eσ39, zq_up_ne (by first | omega | exact zc_dk (zc_p256_4 ko1) zc_s255 rfl), eσ34, zq_up_ne (by first | omega | exact zc_dk (zc_p256_4 ko1) zc_s255 rfl)])⟩ (by rw [eσ44, zq_up_ne (by first | omega | exact zc_dk zc_s1 zc_s255 rfl), eσ39, zq_up_ne (by first | omega | exact zc_dk zc_s1 zc_s255 rfl), eσ34, zq_up_ne (by first | omega | exact zc_dk zc_s1 zc_s255 rfl)]) wσ16, fun _ => ⟨by rw [eσ44, zq_up_same], by rw [eσ44, zq_up_ne (by omega), eσ39, zq_up_same]; exact eo1.symm⟩, fun h => absurd h (by omega)⟩), Uσ44⟩
  · show V 22 [some (ZR 255), some (ZR 1), none] [] 284 σ16
    refine zr_iconst (pc := 22) hV 0 dX1_readSum_22 rfl ?_
    have t12 := zc_g255_3 hσ16 zc_s255
    have t13 : σ16 255 3 = σ 255 3 := hfσ16 _ _ (zc_out_at zc_s255 rfl)
    exact zr_zret (pc := 23) hV dX1_readSum_23 rfl rfl (by omega) ⟨_, rfl, ⟨by decide, by decide⟩, hσ16, hFσ16, (by omega), (show zs_E (σ 2) (σ 1 1) (σ 255 4) (zx_p2 (σ 3 0) - 1) (0 : Int) σ16 (σ 255 2) ∧ ((0 : Int) = 1 → σ16 255 3 = 1 ∧ σ16 255 1 = σ 255 2) ∧ ((0 : Int) = 0 → σ16 255 3 = σ 255 3 ∧ σ16 255 1 = σ 255 1 ∧ zs_sm σ σ16 (σ 255 1)) from ⟨by rw [eo1]; exact zs_E_fr (by omega) (zs_sm_rf _ _) rfl wσ16, fun h => absurd h (by omega), fun _ => ⟨hfσ16 255 3 (zc_out_at zc_s255 rfl), hfσ16 255 1 (zc_out_at zc_s255 rfl), zs_told_sm hσ Uσ (by rw [eo1]; exact hoσ16)⟩⟩), Uσ16⟩
set_option maxHeartbeats 800000 in
theorem c_X11_sum_3 {σ : zq_S} (hσ : zc_T σ)   (Uσ : zc_U σ) : zq_C zc_w yX11_sum cX11_sum 3 (some .int) 5 116 284 284 [ZR 0] σ (zq_pi (fun r τ => zc_T τ ∧ zc_Fr [(1, 1), (1, 2), (1, 3), (255, 1), (255, 2), (255, 3), (256, 5), (256, 6), (256, 9), (257, -1), (258, -1), (259, -1), (260, -1), (262, -1), (263, -1)] σ τ ∧ (τ 1 1 = 0) ∧ zq_hid (zs_S (σ 2) (σ 1 1) (σ 255 4) (zx_p2 (σ 3 0) - 1) r σ τ) ∧ zc_U τ)) := by
  refine zq_C_of (by decide) (Nat.le_refl _) (Nat.le_of_ble_eq_true rfl) [some (ZR 0), none, none] rfl (fun V hV => ?_)
  have hFσ := zc_Fr_rf [(1, 1), (1, 2), (1, 3), (255, 1), (255, 2), (255, 3), (256, 5), (256, 6), (256, 9), (257, -1), (258, -1), (259, -1), (260, -1), (262, -1), (263, -1)] σ
  show V 0 [some (ZR 0), none, none] [] 284 σ
  refine zr_aload_n (pc := 0) hV dX11_sum_0 rfl rfl ?_
  refine zr_getR (pc := 1) hV 6 255 dX11_sum_1 fX11_57 rfl rfl (zc_k0 zc_s0) (zc_pos zc_s0 rfl) (zc_g0_6 hσ zc_s0) (by decide) ?_
  refine zr_aload_n (pc := 4) hV dX11_sum_4 rfl rfl ?_
  refine zr_getR (pc := 5) hV 0 1 dX11_sum_5 fX11_10 rfl rfl (zc_k0 zc_s0) (zc_pos zc_s0 rfl) (zc_g0_0 hσ zc_s0) (by decide) ?_
  refine zr_callVi (pc := 8) hV [ZR 1] (st := []) (c_X1_readSum_2 (σ := σ) hσ Uσ) dX11_sum_8 mX11_228 (zc_k255 zc_s255) (zc_pos zc_s255 rfl) (by decide) (Nat.le_of_ble_eq_true rfl) (Nat.le_refl _) (fun r8 σ8 hr8 pσ8 => ?_)
  obtain ⟨hσ8, hfσ8, pσ8, wσ8, Uσ8⟩ := pσ8
  have hFσ8 := zc_Fc hfσ8 rfl hFσ
  have t1 := zc_g1_1 hσ zc_s1
  have t2 := zc_g255_3 hσ zc_s255
  have t3 := zc_g255_4 hσ zc_s255
  have t4 := zc_g3_0 hσ zc_s3
  refine zr_istore_n (pc := 11) hV [some (ZR 0), some (ZI r8), none] dX11_sum_11 rfl (by decide) rfl rfl ?_
  refine zr_aload_n (pc := 12) hV dX11_sum_12 rfl rfl ?_
  refine zr_getR (pc := 13) hV 0 1 dX11_sum_13 fX11_10 rfl rfl (zc_k0 zc_s0) (zc_pos zc_s0 rfl) (zc_g0_0 hσ8 zc_s0) (by decide) ?_
  refine zr_callVp (pc := 16) hV [] (st := []) (c_X8_fault_2 (σ := σ8) hσ8) dX11_sum_16 mX11_101 (zc_k1 zc_s1) (zc_pos zc_s1 rfl) (by decide) (Nat.le_of_ble_eq_true rfl) (Nat.le_refl _) (fun r16 hr16 pr16 => ?_)
  have t5 := zc_g1_2 hσ8 zc_s1
  refine zr_istore_n (pc := 19) hV [some (ZR 0), some (ZI r8), some (ZI r16)] dX11_sum_19 rfl (by decide) rfl rfl ?_
  refine zr_aload_n (pc := 20) hV dX11_sum_20 rfl rfl ?_
  refine zr_getR (pc := 21) hV 0 1 dX11_sum_21 fX11_10 rfl rfl (zc_k0 zc_s0) (zc_pos zc_s0 rfl) (zc_g0_0 hσ8 zc_s0) (by decide) ?_
  refine zr_callVv (pc := 24) hV [] (st := []) (c_X8_empty_2 (σ := σ8) hσ8) dX11_sum_24 mX11_104 (zc_k1 zc_s1) (zc_pos zc_s1 rfl) (by decide) (Nat.le_of_ble_eq_true rfl) (Nat.le_refl _) (fun σ24 pσ24 => ?_)
  obtain ⟨hσ24, hfσ24, pσ24⟩ := pσ24
  have hFσ24 := zc_Fc hfσ24 rfl hFσ8
  have Uσ24 : zc_U σ24 := zc_U_fr hfσ24 rfl hσ8 Uσ8
  have t6 := zc_g1_1 hσ24 zc_s1
  have t7 := zc_g1_2 hσ24 zc_s1
  refine zr_iload_n (pc := 27) hV dX11_sum_27 rfl rfl ?_
  refine zr_if_eq (pc := 28) hV 44 dX11_sum_28 (by decide) (by omega) (fun c8 => ?_) (fun c8 => ?_)
  · show V 44 [some (ZR 0), some (ZI r8), some (ZI r16)] [] 284 σ24
    refine zr_iload_n (pc := 44) hV dX11_sum_44 rfl rfl ?_
    show V 45 [some (ZR 0), some (ZI r8), some (ZI r16)] [ZI r16] 284 σ24
    have t9 := zc_g1_1 hσ24 zc_s1
    exact zr_iret (pc := 45) hV dX11_sum_45 rfl rfl ⟨_, rfl, (by omega), hσ24, hFσ24, (by omega), (show zs_S (σ 2) (σ 1 1) (σ 255 4) (zx_p2 (σ 3 0) - 1) r16 σ σ24 from (fun G => by obtain ⟨z1, z2, z3⟩ := wσ8.1 G; obtain ⟨w1, w2, w3⟩ := wσ8.2.2 (by omega); exact ⟨fun h => absurd h (by omega), fun _ => ⟨by rw [← z2]; omega, (hfσ24 255 3 (zc_out_at zc_s255 rfl)).trans w1, (hfσ24 255 1 (zc_out_at zc_s255 rfl)).trans w2, zs_sm_tr w3 ⟨hfσ24 (σ 255 1) 5 (zc_out_at (zc_g255_1 hσ zc_s255) rfl), hfσ24 (σ 255 1) 6 (zc_out_at (zc_g255_1 hσ zc_s255) rfl), fun i => hfσ24 ((σ 255 1) + 1) i (zc_out_ar (zc_p256_1 (zc_g255_1 hσ zc_s255)) rfl), fun i => hfσ24 ((σ 255 1) + 2) i (zc_out_ar (zc_p256_2 (zc_g255_1 hσ zc_s255)) rfl), fun i => hfσ24 ((σ 255 1) + 3) i (zc_out_ar (zc_p256_3 (zc_g255_1 hσ zc_s255)) rfl), fun i => hfσ24 ((σ 255 1) + 4) i (zc_out_ar (zc_p256_4 (zc_g255_1 hσ zc_s255)) rfl)⟩⟩⟩)), Uσ24⟩
  · show V 31 [some (ZR 0), some (ZI r8), some (ZI r16)] [] 284 σ24
    refine zr_aload_n (pc := 31) hV dX11_sum_31 rfl rfl ?_
    refine zr_getR (pc := 32) hV 6 255 dX11_sum_32 fX11_57 rfl rfl (zc_k0 zc_s0) (zc_pos zc_s0 rfl) (zc_g0_6 hσ24 zc_s0) (by decide) ?_
    have t10 : σ24 255 1 = σ8 255 1 := hfσ24 _ _ (zc_out_at zc_s255 rfl)
    obtain ⟨o35, eo35⟩ : ∃ o, σ8 255 1 = o := ⟨_, rfl⟩
    have ko35 : zc_kd o35 = 256 := eo35 ▸ zc_g255_1 hσ8 zc_s255
    have po35 := zc_pos ko35 rfl
    refine zr_getR (pc := 35) hV 1 o35 dX11_sum_35 fX11_232 rfl rfl (zc_k255 zc_s255) (zc_pos zc_s255 rfl) (by omega) (zc_pos ko35 rfl).1 ?_
    refine zr_getI (pc := 38) hV 6 dX11_sum_38 fX11_235 rfl rfl (zc_k256 ko35) (zc_pos ko35 rfl) ?_
    have t11 := zc_g256_6 hσ24 ko35
    have t12 : σ24 o35 6 = σ8 o35 6 := hfσ24 _ _ (zc_out_at ko35 rfl)
    refine zr_goto (pc := 41) hV 45 dX11_sum_41 (by decide) ?_
    show V 45 [some (ZR 0), some (ZI r8), some (ZI r16)] [ZI (σ24 o35 6)] 284 σ24
    have t13 := zc_g1_1 hσ24 zc_s1
    exact zr_iret (pc := 45) hV dX11_sum_45 rfl rfl ⟨_, rfl, (by omega), hσ24, hFσ24, (by omega), (show zs_S (σ 2) (σ 1 1) (σ 255 4) (zx_p2 (σ 3 0) - 1) (σ24 o35 6) σ σ24 from (fun G => by obtain ⟨z1, z2, z3⟩ := wσ8.1 G; obtain ⟨y1, y2, y3⟩ := z3 (by omega); obtain ⟨w1, w2⟩ := wσ8.2.1 (by omega); have e1 : σ24 255 1 = σ 255 2 := (hfσ24 255 1 (zc_out_at zc_s255 rfl)).trans w2; have kb := zc_g255_2 hσ zc_s255; refine ⟨fun _ => ⟨?_, (hfσ24 255 3 (zc_out_at zc_s255 rfl)).trans w1, ?_, fun i i0 i1 => ?_⟩, fun h => absurd (show (zs_run (σ 2) (σ 1 1) (σ 255 4) (zx_p2 (σ 3 0) - 1) 100 0 0 0 (zs_0 G)).1 = 1 by omega) h⟩; rw [show o35 = σ 255 2 by omega, hfσ24 (σ 255 2) 6 (zc_out_at kb rfl)]; exact y2; rw [e1, hfσ24 (σ 255 2) 5 (zc_out_at kb rfl)]; exact y1; rw [e1]; exact zs_nd_fr (σ := σ8) ⟨hfσ24 (σ 255 2) 5 (zc_out_at kb rfl), hfσ24 (σ 255 2) 6 (zc_out_at kb rfl), fun i => hfσ24 ((σ 255 2) + 1) i (zc_out_ar (zc_p256_1 kb) rfl), fun i => hfσ24 ((σ 255 2) + 2) i (zc_out_ar (zc_p256_2 kb) rfl), fun i => hfσ24 ((σ 255 2) + 3) i (zc_out_ar (zc_p256_3 kb) rfl), fun i => hfσ24 ((σ 255 2) + 4) i (zc_out_ar (zc_p256_4 kb) rfl)⟩ (fun _ _ _ => rfl) (y3 i i0 (by rw [y1]; exact i1)))), Uσ24⟩
