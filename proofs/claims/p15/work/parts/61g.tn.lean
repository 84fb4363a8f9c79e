set_option maxHeartbeats 800000 in
theorem c_X9_joinBoth_2 {σ : zq_S} (hσ : zc_T σ) (a : Int) (ka : zc_kd a = 4) (b : Int) (kb : zc_kd b = 4) (sp : Int) (esp : σ 3 5 = sp) (ksp : zc_kd sp = 4) (q0 : 0 ≤ σ a 11 ∧ σ a 11 ≤ 1000) (q1 : 0 ≤ σ b 11 ∧ σ b 11 ≤ 1000) (q2 : a ≠ sp) (q3 : b ≠ sp) (q4 : σ sp 6 = 0 ∧ σ sp 12 = 0 ∧ σ sp 13 = 0) : zq_C zc_w yX9_joinBoth cX9_joinBoth 7 (some .int) 5 111 284 284 [ZR 3, ZR a, ZR b] σ (zq_pi (fun r τ => zc_T τ ∧ zc_Fr [(3, 3), (3, 5), (4, 1), (4, 2), (4, 6), (4, 11), (4, 12), (4, 13), (4, 14), (5, -1), (6, -1), (7, -1), (8, -1), (9, -1), (10, -1), (11, -1)] σ τ ∧ zd_Own sp σ τ ∧ (True) ∧ zq_hid (zt_jb σ τ sp a b r))) := by
  refine zq_C_of (by decide) (Nat.le_refl _) (Nat.le_of_ble_eq_true rfl) [some (ZR 3), some (ZR a), some (ZR b), none, none, none, none] rfl (fun V hV => ?_)
  have poa := zc_pos ka rfl
  have pob := zc_pos kb rfl
  have hFσ := zc_Fr_rf [(3, 3), (3, 5), (4, 1), (4, 2), (4, 6), (4, 11), (4, 12), (4, 13), (4, 14), (5, -1), (6, -1), (7, -1), (8, -1), (9, -1), (10, -1), (11, -1)] σ
  have hOσ := zd_Own_rf sp σ
  have posp := zc_pos ksp rfl
  have z2 := zc_g3_2 hσ zc_s3
  have za6 := zc_g4_6 hσ ka
  have zb6 := zc_g4_6 hσ kb
  show V 0 [some (ZR 3), some (ZR a), some (ZR b), none, none, none, none] [] 284 σ
  refine zr_aload_n (pc := 0) hV dX9_joinBoth_0 rfl rfl ?_
  refine zr_aload_n (pc := 1) hV dX9_joinBoth_1 rfl rfl ?_
  refine zr_aload_n (pc := 2) hV dX9_joinBoth_2 rfl rfl ?_
  have t1 := zc_g4_11 hσ ka
  have t2 := zc_g4_11 hσ kb
  refine zr_callVp (pc := 3) hV [ZR a, ZR b] (st := []) (c_X9_roomFor_2 (σ := σ) hσ a ka b kb (by omega) (by omega)) dX9_joinBoth_3 mX9_114 (zc_k3 zc_s3) (zc_pos zc_s3 rfl) (by decide) (Nat.le_of_ble_eq_true rfl) (Nat.le_refl _) (fun r3 hr3 pr3 => ?_)
  have t3 := zc_g3_2 hσ zc_s3
  refine zr_istore_n (pc := 6) hV [some (ZR 3), some (ZR a), some (ZR b), some (ZI r3), none, none, none] dX9_joinBoth_6 rfl (by decide) rfl rfl ?_
  refine zr_iload_n (pc := 7) hV dX9_joinBoth_7 rfl rfl ?_
  refine zr_if_ge (pc := 8) hV 14 dX9_joinBoth_8 (by decide) (by omega) (fun c4 => ?_) (fun c4 => ?_)
  · show V 14 [some (ZR 3), some (ZR a), some (ZR b), some (ZI r3), none, none, none] [] 284 σ
    have zF := (pr3.2.1 (by omega)).1
    have zFw := zF.2
    have zac : σ a 6 + σ b 6 ≤ 3 := zF.1.2.2.2.1
    refine zr_aload_n (pc := 14) hV dX9_joinBoth_14 rfl rfl ?_
    refine zr_aload_n (pc := 15) hV dX9_joinBoth_15 rfl rfl ?_
    refine zr_callSp (pc := 16) hV [ZR a, ZR b] (st := []) (c_X9_freeBits_2 (σ := σ) hσ a ka b kb) dX9_joinBoth_16 mX9_118 (by decide) (Nat.le_of_ble_eq_true rfl) (Nat.le_refl _) (fun r16 hr16 pr16 => ?_)
    have zk : zq_shl 1 r16 = zx_p2 r16 := (zq_shl_one 12 4096 (by decide) (by decide) (by omega)).1
    have zkk : zq_shl 1 r16 = zx_p2 (zt_fw (σ (a + 1)) (σ (b + 1)) 4) := by rw [zk]; exact congrArg zx_p2 pr16.2
    refine zr_istore (pc := 19) hV [some (ZR 3), some (ZR a), some (ZR b), some (ZI r3), some (ZI r16), none, none] dX9_joinBoth_19 (by decide) rfl rfl ?_
    refine zr_aload_n (pc := 21) hV dX9_joinBoth_21 rfl rfl ?_
    refine zr_getR (pc := 22) hV 5 sp dX9_joinBoth_22 fX9_12 rfl rfl (zc_k3 zc_s3) (zc_pos zc_s3 rfl) (by omega) (zc_pos ksp rfl).1 ?_
    refine zr_aload_n (pc := 25) hV dX9_joinBoth_25 rfl rfl ?_
    refine zr_callVp (pc := 26) hV [] (st := [ZR sp]) (c_X9_bitsInAll_2 (σ := σ) hσ) dX9_joinBoth_26 mX9_48 (zc_k3 zc_s3) (zc_pos zc_s3 rfl) (by decide) (Nat.le_of_ble_eq_true rfl) (Nat.le_refl _) (fun r26 hr26 pr26 => ?_)
    have t5 := zc_g3_2 hσ zc_s3
    refine zr_iconst (pc := 29) hV 1 dX9_joinBoth_29 rfl ?_
    refine zr_iload (pc := 30) hV dX9_joinBoth_30 rfl ?_
    refine zr_ishl (pc := 32) hV dX9_joinBoth_32 ?_
    have t6 := zx_shl_one (y := r16) 11 2048 (by decide) (by decide) (by omega)
    refine zr_isub (pc := 33) hV dX9_joinBoth_33 ?_
    refine zr_putI (pc := 34) hV 1 dX9_joinBoth_34 fX9_72 rfl rfl rfl (zc_k4 ksp) (zc_pos ksp rfl) (fun σ34 eσ34 => ?_)
    have hσ34 : zc_T σ34 := zc_u4_1 eσ34 hσ ksp (by omega)
    have hFσ34 := zc_Fw eσ34 ksp rfl hFσ
    have hOσ34 := zd_Ow eσ34 (by omega) hOσ
    refine zr_aload_n (pc := 37) hV dX9_joinBoth_37 rfl rfl ?_
    have t7 : σ34 3 5 = σ 3 5 := by rw [eσ34]; exact zq_up_ne (zc_dk zc_s3 ksp rfl)
    refine zr_getR (pc := 38) hV 5 sp dX9_joinBoth_38 fX9_12 rfl rfl (zc_k3 zc_s3) (zc_pos zc_s3 rfl) (by omega) (zc_pos ksp rfl).1 ?_
    refine zr_iload_n (pc := 41) hV dX9_joinBoth_41 rfl rfl ?_
    refine zr_putI (pc := 42) hV 2 dX9_joinBoth_42 fX9_69 rfl rfl rfl (zc_k4 ksp) (zc_pos ksp rfl) (fun σ42 eσ42 => ?_)
    have hσ42 : zc_T σ42 := zc_u4_2 eσ42 hσ34 ksp (by omega)
    have hFσ42 := zc_Fw eσ42 ksp rfl hFσ34
    have hOσ42 := zd_Ow eσ42 (by omega) hOσ34
    have m1 : σ42 sp 1 = zx_p2 (σ 3 2) - zx_p2 (zt_fw (σ (a + 1)) (σ (b + 1)) 4) := by rw [eσ42, zq_up_ne (by omega), eσ34, zq_up_same]; omega
    have m2 : σ42 sp 2 = r3 := by rw [eσ42, zq_up_same]
    have m6 : σ42 sp 6 = 0 := by rw [eσ42, zq_up_ne (by omega), eσ34, zq_up_ne (by omega)]; omega
    have m12 : σ42 sp 12 = 0 := by rw [eσ42, zq_up_ne (by omega), eσ34, zq_up_ne (by omega)]; omega
    have m13 : σ42 sp 13 = 0 := by rw [eσ42, zq_up_ne (by omega), eσ34, zq_up_ne (by omega)]; omega
    refine zr_iconst (pc := 45) hV 0 dX9_joinBoth_45 rfl ?_
    refine zr_istore (pc := 46) hV [some (ZR 3), some (ZR a), some (ZR b), some (ZI r3), some (ZI r16), some (ZI 0), none] dX9_joinBoth_46 (by decide) rfl rfl ?_
    have L48 : ∀ (fuel : Nat) (x4_48 : Int) (x5_48 : Int) (σ_48 : zq_S), (0 ≤ x4_48 ∧ x4_48 ≤ 11) → (0 ≤ x5_48 ∧ x5_48 ≤ 4) → (zc_T σ_48) → (zc_Fr [(3, 3), (3, 5), (4, 1), (4, 2), (4, 6), (4, 11), (4, 12), (4, 13), (4, 14), (5, -1), (6, -1), (7, -1), (8, -1), (9, -1), (10, -1), (11, -1)] σ σ_48) → (zd_Own sp σ σ_48) → (σ_48 3 5 = sp) → (σ_48 sp 1 = zx_p2 (σ 3 2) - zx_p2 (zt_fw (σ (a + 1)) (σ (b + 1)) 4)) → (σ_48 sp 2 = r3) → (σ_48 sp 6 = 0) → (σ_48 sp 12 = 0) → (σ_48 sp 13 = 0) → (x4_48 = (zt_fw (σ (a + 1)) (σ (b + 1)) 4) - (zt_fw (σ (a + 1)) (σ (b + 1)) x5_48)) → (zq_hid (∀ f, 0 ≤ f → f < x5_48 → σ_48 (sp + 1) f = (zx_p2 (zt_mx (zt_bc (σ (a + 1) f)) (zt_bc (σ (b + 1) f))) - 1) * zx_p2 ((zt_fw (σ (a + 1)) (σ (b + 1)) 4) - (zt_fw (σ (a + 1)) (σ (b + 1)) (f + 1))))) → (zq_hid (zt_same σ σ_48)) → 4 - x5_48 < (fuel : Int) → V 48 [some (ZR 3), some (ZR a), some (ZR b), none, some (ZI x4_48), some (ZI x5_48), none] [] 284 σ_48 := by
      intro fuel
      induction fuel with
      | zero =>
        intro x4_48 x5_48 σ_48 hx4_48 hx5_48 hσ_48 hFσ_48 hOσ_48 hi48_0 hi48_1 hi48_2 hi48_3 hi48_4 hi48_5 hi48_6 hi48_7 hi48_8 hm48
        exfalso; omega
      | succ fuel ih =>
        intro x4_48 x5_48 σ_48 hx4_48 hx5_48 hσ_48 hFσ_48 hOσ_48 hi48_0 hi48_1 hi48_2 hi48_3 hi48_4 hi48_5 hi48_6 hi48_7 hi48_8 hm48
        have ih48 := ih
        show V 48 [some (ZR 3), some (ZR a), some (ZR b), none, some (ZI x4_48), some (ZI x5_48), none] [] 284 σ_48
        refine zr_iload (pc := 48) hV dX9_joinBoth_48 rfl ?_
        refine zr_iconst (pc := 50) hV 3 dX9_joinBoth_50 rfl ?_
        refine zr_icmp_gt (pc := 51) hV 95 dX9_joinBoth_51 (by decide) (by omega) ⟨by decide, by decide⟩ (fun c8 => ?_) (fun c8 => ?_)
        · show V 95 [some (ZR 3), some (ZR a), some (ZR b), none, some (ZI x4_48), some (ZI x5_48), none] [] 284 σ_48
          have a6 : σ_48 a 6 = σ a 6 := hOσ_48 a 6 (by rw [ka]; decide) (by rw [ka]; decide) (by have := zt_own4 (k := 0) ka ksp q2 (by omega) (by omega); omega)
          refine zr_aload_n (pc := 95) hV dX9_joinBoth_95 rfl rfl ?_
          refine zr_getR (pc := 96) hV 5 sp dX9_joinBoth_96 fX9_12 rfl rfl (zc_k3 zc_s3) (zc_pos zc_s3 rfl) (by omega) (zc_pos ksp rfl).1 ?_
          refine zr_aload_n (pc := 99) hV dX9_joinBoth_99 rfl rfl ?_
          have t9 := zc_g4_6 hσ_48 ka
          have t10 := zc_g4_6 hσ_48 ksp
          refine zr_callVv (pc := 100) hV [ZR a] (st := []) (c_X3_addActsOf_2 (σ := σ_48) hσ_48 sp ksp a ka (by omega) (by omega)) dX9_joinBoth_100 mX9_156 (zc_k4 ksp) (zc_pos ksp rfl) (by decide) (Nat.le_of_ble_eq_true rfl) (Nat.le_refl _) (fun σ100 pσ100 => ?_)
          obtain ⟨hσ100, hfσ100, hoσ100, pσ100, wσ100⟩ := pσ100
          have hFσ100 := zc_Fc hfσ100 rfl hFσ_48
          have hOσ100 := zd_Oo hoσ100 hOσ_48
          have t11 := zc_g4_6 hσ_48 ka
          have u6 := wσ100.1
          have b6 : σ100 b 6 = σ b 6 := hOσ100 b 6 (by rw [kb]; decide) (by rw [kb]; decide) (by have := zt_own4 (k := 0) kb ksp q3 (by omega) (by omega); omega)
          refine zr_aload_n (pc := 103) hV dX9_joinBoth_103 rfl rfl ?_
          have t12 : σ100 3 5 = σ_48 3 5 := hfσ100 _ _ (zc_out_at zc_s3 rfl)
          refine zr_getR (pc := 104) hV 5 sp dX9_joinBoth_104 fX9_12 rfl rfl (zc_k3 zc_s3) (zc_pos zc_s3 rfl) (by omega) (zc_pos ksp rfl).1 ?_
          refine zr_aload_n (pc := 107) hV dX9_joinBoth_107 rfl rfl ?_
          have t13 := zc_g4_6 hσ100 kb
          have t14 := zc_g4_6 hσ100 ksp
          refine zr_callVv (pc := 108) hV [ZR b] (st := []) (c_X3_addActsOf_2 (σ := σ100) hσ100 sp ksp b kb (by omega) (by omega)) dX9_joinBoth_108 mX9_156 (zc_k4 ksp) (zc_pos ksp rfl) (by decide) (Nat.le_of_ble_eq_true rfl) (Nat.le_refl _) (fun σ108 pσ108 => ?_)
          obtain ⟨hσ108, hfσ108, hoσ108, pσ108, wσ108⟩ := pσ108
          have hFσ108 := zc_Fc hfσ108 rfl hFσ100
          have hOσ108 := zd_Oo hoσ108 hOσ100
          have t15 := zc_g4_6 hσ100 kb
          have a11 : σ_48 a 11 = σ a 11 := hOσ_48 a 11 (by rw [ka]; decide) (by rw [ka]; decide) (by have := zt_own4 (k := 0) ka ksp q2 (by omega) (by omega); omega)
          have b11 : σ_48 b 11 = σ b 11 := hOσ_48 b 11 (by rw [kb]; decide) (by rw [kb]; decide) (by have := zt_own4 (k := 0) kb ksp q3 (by omega) (by omega); omega)
          refine zr_aload_n (pc := 111) hV dX9_joinBoth_111 rfl rfl ?_
          have t16 : σ108 3 5 = σ100 3 5 := hfσ108 _ _ (zc_out_at zc_s3 rfl)
          have t17 : σ100 3 5 = σ_48 3 5 := hfσ100 _ _ (zc_out_at zc_s3 rfl)
          refine zr_getR (pc := 112) hV 5 sp dX9_joinBoth_112 fX9_12 rfl rfl (zc_k3 zc_s3) (zc_pos zc_s3 rfl) (by omega) (zc_pos ksp rfl).1 ?_
          refine zr_aload_n (pc := 115) hV dX9_joinBoth_115 rfl rfl ?_
          refine zr_getI (pc := 116) hV 11 dX9_joinBoth_116 fX9_140 rfl rfl (zc_k4 ka) (zc_pos ka rfl) ?_
          have t18 := zc_g4_11 hσ108 ka
          have t19 : σ108 a 11 = σ100 a 11 := hfσ108 _ _ (zc_out_at ka rfl)
          have t20 : σ100 a 11 = σ_48 a 11 := hfσ100 _ _ (zc_out_at ka rfl)
          refine zr_aload_n (pc := 119) hV dX9_joinBoth_119 rfl rfl ?_
          refine zr_getI (pc := 120) hV 11 dX9_joinBoth_120 fX9_140 rfl rfl (zc_k4 kb) (zc_pos kb rfl) ?_
          have t21 := zc_g4_11 hσ108 kb
          have t22 : σ108 b 11 = σ100 b 11 := hfσ108 _ _ (zc_out_at kb rfl)
          have t23 : σ100 b 11 = σ_48 b 11 := hfσ100 _ _ (zc_out_at kb rfl)
          refine zr_iadd (pc := 123) hV dX9_joinBoth_123 ?_
          refine zr_iconst (pc := 124) hV 1 dX9_joinBoth_124 rfl ?_
          refine zr_isub (pc := 125) hV dX9_joinBoth_125 ?_
          refine zr_putI (pc := 126) hV 11 dX9_joinBoth_126 fX9_140 rfl rfl rfl (zc_k4 ksp) (zc_pos ksp rfl) (fun σ126 eσ126 => ?_)
          have hσ126 : zc_T σ126 := zc_u4_11 eσ126 hσ108 ksp (by omega)
          have hFσ126 := zc_Fw eσ126 ksp rfl hFσ108
          have hOσ126 := zd_Ow eσ126 (by omega) hOσ108
          refine zr_aload_n (pc := 129) hV dX9_joinBoth_129 rfl rfl ?_
          have t24 : σ126 3 5 = σ108 3 5 := by rw [eσ126]; exact zq_up_ne (zc_dk zc_s3 ksp rfl)
          have t25 : σ108 3 5 = σ100 3 5 := hfσ108 _ _ (zc_out_at zc_s3 rfl)
          have t26 : σ100 3 5 = σ_48 3 5 := hfσ100 _ _ (zc_out_at zc_s3 rfl)
          refine zr_callVi (pc := 130) hV [] (st := []) (c_X9_keepSpare_2 (σ := σ126) hσ126 sp (by omega) ksp) dX9_joinBoth_130 mX9_66 (zc_k3 zc_s3) (zc_pos zc_s3 rfl) (by decide) (Nat.le_of_ble_eq_true rfl) (Nat.le_refl _) (fun r130 σ130 hr130 pσ130 => ?_)
          obtain ⟨hσ130, hfσ130, hoσ130, pσ130, wσ130⟩ := pσ130
          have hFσ130 := zc_Fc hfσ130 rfl hFσ126
          have hOσ130 := zd_Oo hoσ130 hOσ126
          exact zr_iret (pc := 133) hV dX9_joinBoth_133 rfl rfl ⟨_, rfl, (by omega), hσ130, hFσ130, hOσ130, trivial, (show zt_jb σ σ130 sp a b r130 from ⟨r3, pr3.2, fun h => absurd h (by omega), fun _ => ⟨⟨by rw [hfσ130 sp _ (zc_out_at ksp rfl), eσ126, zq_up_ne (by first | omega | exact zc_dk ksp ksp rfl), hfσ108 sp _ (zc_out_at ksp rfl), hfσ100 sp _ (zc_out_at ksp rfl)]; exact hi48_1, by rw [hfσ130 sp _ (zc_out_at ksp rfl), eσ126, zq_up_ne (by first | omega | exact zc_dk ksp ksp rfl), hfσ108 sp _ (zc_out_at ksp rfl), hfσ100 sp _ (zc_out_at ksp rfl)]; exact hi48_2, fun f h0 h3 => by rw [hfσ130 (sp + 1) _ (zc_out_ar (zc_p4_1 ksp) rfl), eσ126, zq_up_ne (by first | omega | exact zc_dk (zc_p4_1 ksp) ksp rfl), hfσ108 (sp + 1) _ (zc_out_ar (zc_p4_1 ksp) rfl), hfσ100 (sp + 1) _ (zc_out_ar (zc_p4_1 ksp) rfl)]; exact hi48_7 f h0 (by omega), by rw [hfσ130 sp _ (zc_out_at ksp rfl), eσ126, zq_up_same]; omega, (zt_ja_fr (by rw [hfσ130 sp _ (zc_out_at ksp rfl), eσ126, zq_up_ne (by first | omega | exact zc_dk ksp ksp rfl)]) (by rw [hfσ130 sp _ (zc_out_at ksp rfl), eσ126, zq_up_ne (by first | omega | exact zc_dk ksp ksp rfl)]) (by rw [hfσ130 sp _ (zc_out_at ksp rfl), eσ126, zq_up_ne (by first | omega | exact zc_dk ksp ksp rfl)]) (fun j => by rw [hfσ130 (sp + 2) _ (zc_out_ar (zc_p4_2 ksp) rfl), eσ126, zq_up_ne (by first | omega | exact zc_dk (zc_p4_2 ksp) ksp rfl)]) (fun j => by rw [hfσ130 (sp + 3) _ (zc_out_ar (zc_p4_3 ksp) rfl), eσ126, zq_up_ne (by first | omega | exact zc_dk (zc_p4_3 ksp) ksp rfl)]) (fun j => by rw [hfσ130 (sp + 4) _ (zc_out_ar (zc_p4_4 ksp) rfl), eσ126, zq_up_ne (by first | omega | exact zc_dk (zc_p4_4 ksp) ksp rfl)]) (fun j => by rw [hfσ130 (sp + 5) _ (zc_out_ar (zc_p4_5 ksp) rfl), eσ126, zq_up_ne (by first | omega | exact zc_dk (zc_p4_5 ksp) ksp rfl)]) (zt_ja_of (by omega) hi48_3 hi48_4 hi48_5 (hOσ_48 a 6 (by rw [ka]; decide) (by rw [ka]; decide) (by have := zt_own4 (k := 0) ka ksp q2 (by omega) (by omega); omega)) (funext (fun j => hOσ_48 (a + 2) j (by rw [(zc_p4_2 ka)]; decide) (by rw [(zc_p4_2 ka)]; decide) (zt_own4 ka ksp q2 (by omega) (by omega)))) (funext (fun j => hOσ_48 (a + 3) j (by rw [(zc_p4_3 ka)]; decide) (by rw [(zc_p4_3 ka)]; decide) (zt_own4 ka ksp q2 (by omega) (by omega)))) (funext (fun j => hOσ_48 (a + 4) j (by rw [(zc_p4_4 ka)]; decide) (by rw [(zc_p4_4 ka)]; decide) (zt_own4 ka ksp q2 (by omega) (by omega)))) (funext (fun j => hOσ_48 (a + 5) j (by rw [(zc_p4_5 ka)]; decide) (by rw [(zc_p4_5 ka)]; decide) (zt_own4 ka ksp q2 (by omega) (by omega)))) (hOσ100 b 6 (by rw [kb]; decide) (by rw [kb]; decide) (by have := zt_own4 (k := 0) kb ksp q3 (by omega) (by omega); omega)) (funext (fun j => hOσ100 (b + 2) j (by rw [(zc_p4_2 kb)]; decide) (by rw [(zc_p4_2 kb)]; decide) (zt_own4 kb ksp q3 (by omega) (by omega)))) (funext (fun j => hOσ100 (b + 3) j (by rw [(zc_p4_3 kb)]; decide) (by rw [(zc_p4_3 kb)]; decide) (zt_own4 kb ksp q3 (by omega) (by omega)))) (funext (fun j => hOσ100 (b + 4) j (by rw [(zc_p4_4 kb)]; decide) (by rw [(zc_p4_4 kb)]; decide) (zt_own4 kb ksp q3 (by omega) (by omega)))) (funext (fun j => hOσ100 (b + 5) j (by rw [(zc_p4_5 kb)]; decide) (by rw [(zc_p4_5 kb)]; decide) (zt_own4 kb ksp q3 (by omega) (by omega)))) wσ100 wσ108))⟩, zt_keep_fr (hFσ126 3 2 (zc_out_at zc_s3 rfl)) (by rw [eσ126, zq_up_ne (by first | omega | exact zc_dk zc_s3 ksp rfl), hfσ108 3 _ (zc_out_at zc_s3 rfl), hfσ100 3 _ (zc_out_at zc_s3 rfl)]; exact hi48_8.1) (by rw [eσ126, zq_up_ne (by first | omega | exact zc_dk zc_s3 ksp rfl), hfσ108 3 _ (zc_out_at zc_s3 rfl), hfσ100 3 _ (zc_out_at zc_s3 rfl)]; exact hi48_8.2.1) (fun i => by rw [eσ126, zq_up_ne (by first | omega | exact zc_dk zc_s10 ksp rfl), hfσ108 10 _ (zc_out_ar zc_s10 rfl), hfσ100 10 _ (zc_out_ar zc_s10 rfl)]; exact hi48_8.2.2.1 i) (fun i => by rw [eσ126, zq_up_ne (by first | omega | exact zc_dk zc_s11 ksp rfl), hfσ108 11 _ (zc_out_ar zc_s11 rfl), hfσ100 11 _ (zc_out_ar zc_s11 rfl)]; exact hi48_8.2.2.2 i) (hfσ130 sp 1 (zc_out_at ksp rfl)) (hfσ130 sp 2 (zc_out_at ksp rfl)) wσ130⟩⟩)⟩
        · show V 54 [some (ZR 3), some (ZR a), some (ZR b), none, some (ZI x4_48), some (ZI x5_48), none] [] 284 σ_48
          refine zr_aload_n (pc := 54) hV dX9_joinBoth_54 rfl rfl ?_
          refine zr_aload_n (pc := 55) hV dX9_joinBoth_55 rfl rfl ?_
          refine zr_iload (pc := 56) hV dX9_joinBoth_56 rfl ?_
          refine zr_callSp (pc := 58) hV [ZR a, ZR b, ZI x5_48] (st := []) (c_X9_widthOf_2 (σ := σ_48) hσ_48 a ka b kb x5_48 (by omega)) dX9_joinBoth_58 mX9_149 (by decide) (Nat.le_of_ble_eq_true rfl) (Nat.le_refl _) (fun r58 hr58 pr58 => ?_)
          have fa1 : σ_48 (a + 1) x5_48 = σ (a + 1) x5_48 := hOσ_48 (a + 1) x5_48 (by rw [(zc_p4_1 ka)]; decide) (by rw [(zc_p4_1 ka)]; decide) (zt_own4 ka ksp q2 (by omega) (by omega))
          have fb1 : σ_48 (b + 1) x5_48 = σ (b + 1) x5_48 := hOσ_48 (b + 1) x5_48 (by rw [(zc_p4_1 kb)]; decide) (by rw [(zc_p4_1 kb)]; decide) (zt_own4 kb ksp q3 (by omega) (by omega))
          rw [fa1, fb1] at pr58
          have zfs := zt_fw_s (σ (a + 1)) (σ (b + 1)) (k := x5_48) (by omega)
          have zfl := zt_fw_le (σ (a + 1)) (σ (b + 1)) (j := x5_48 + 1) (m := 4) (by omega) (by omega)
          have zf0 := zt_fw_le (σ (a + 1)) (σ (b + 1)) (j := 0) (m := x5_48) (by omega) (by omega)
          rw [zt_fw_0] at zf0
          have zw1 : zq_shl 1 r58 = zx_p2 r58 := (zq_shl_one 12 4096 (by decide) (by decide) (by omega)).1
          have zsh : zq_shl ((zq_shl 1 r58) - 1) (x4_48 - r58) = (zx_p2 (zt_mx (zt_bc (σ (a + 1) x5_48)) (zt_bc (σ (b + 1) x5_48))) - 1) * zx_p2 ((zt_fw (σ (a + 1)) (σ (b + 1)) 4) - (zt_fw (σ (a + 1)) (σ (b + 1)) (x5_48 + 1))) := by rw [zw1, zt_shf (by omega) (by omega) (by omega), show x4_48 - r58 = (zt_fw (σ (a + 1)) (σ (b + 1)) 4) - (zt_fw (σ (a + 1)) (σ (b + 1)) (x5_48 + 1)) by omega, pr58.2]
          refine zr_istore (pc := 61) hV [some (ZR 3), some (ZR a), some (ZR b), none, some (ZI x4_48), some (ZI x5_48), some (ZI r58)] dX9_joinBoth_61 (by decide) rfl rfl ?_
          refine zr_iload (pc := 63) hV dX9_joinBoth_63 rfl ?_
          refine zr_iload (pc := 65) hV dX9_joinBoth_65 rfl ?_
          refine zr_isub (pc := 67) hV dX9_joinBoth_67 ?_
          refine zr_istore (pc := 68) hV [some (ZR 3), some (ZR a), some (ZR b), none, some (ZI (x4_48 - r58)), some (ZI x5_48), some (ZI r58)] dX9_joinBoth_68 (by decide) rfl rfl ?_
          refine zr_aload_n (pc := 70) hV dX9_joinBoth_70 rfl rfl ?_
          refine zr_getR (pc := 71) hV 5 sp dX9_joinBoth_71 fX9_12 rfl rfl (zc_k3 zc_s3) (zc_pos zc_s3 rfl) (by omega) (zc_pos ksp rfl).1 ?_
          refine zr_getR (pc := 74) hV 3 (sp + 1) dX9_joinBoth_74 fX9_153 rfl rfl (zc_k4 ksp) (zc_pos ksp rfl) (zc_g4_3 hσ_48 ksp) (zc_pos (zc_p4_1 ksp) rfl).1 ?_
          refine zr_iload (pc := 77) hV dX9_joinBoth_77 rfl ?_
          refine zr_iconst (pc := 79) hV 1 dX9_joinBoth_79 rfl ?_
          refine zr_iload (pc := 80) hV dX9_joinBoth_80 rfl ?_
          refine zr_ishl (pc := 82) hV dX9_joinBoth_82 ?_
          have t27 := zx_shl_one (y := r58) 11 2048 (by decide) (by decide) (by omega)
          refine zr_iconst (pc := 83) hV 1 dX9_joinBoth_83 rfl ?_
          refine zr_isub (pc := 84) hV dX9_joinBoth_84 ?_
          refine zr_iload (pc := 85) hV dX9_joinBoth_85 rfl ?_
          refine zr_ishl (pc := 87) hV dX9_joinBoth_87 ?_
          have t28 := zq_shl_in ((zq_shl 1 r58) - 1) (x4_48 - r58)
          refine zr_iast (pc := 88) hV dX9_joinBoth_88 (zc_k5 (zc_p4_1 ksp)) (zc_pos (zc_p4_1 ksp) rfl) rfl (by omega) (fun σ88 eσ88 => ?_)
          have hσ88 : zc_T σ88 := zc_ua5 eσ88 hσ_48 (zc_p4_1 ksp) (by omega)
          have hFσ88 := zc_Fa eσ88 (zc_p4_1 ksp) rfl hFσ_48
          have hOσ88 := zd_Ow eσ88 (by omega) hOσ_48
          refine zr_iinc (pc := 89) hV [some (ZR 3), some (ZR a), some (ZR b), none, some (ZI (x4_48 - r58)), some (ZI (x5_48 + 1)), some (ZI r58)] (x5_48 + 1) dX9_joinBoth_89 rfl rfl (by decide) rfl rfl ?_
          refine zr_goto (pc := 92) hV 48 dX9_joinBoth_92 (by decide) ?_
          have t29 := zc_g4_1 hσ88 ksp
          have t30 : σ88 sp 1 = σ_48 sp 1 := by rw [eσ88]; exact zq_up_ne (zc_dk ksp (zc_p4_1 ksp) rfl)
          have t31 := zc_g4_2 hσ88 ksp
          have t32 : σ88 sp 2 = σ_48 sp 2 := by rw [eσ88]; exact zq_up_ne (zc_dk ksp (zc_p4_1 ksp) rfl)
          have t33 := zc_g4_6 hσ88 ksp
          have t34 : σ88 sp 6 = σ_48 sp 6 := by rw [eσ88]; exact zq_up_ne (zc_dk ksp (zc_p4_1 ksp) rfl)
          have t35 := zc_g4_12 hσ88 ksp
          have t36 : σ88 sp 12 = σ_48 sp 12 := by rw [eσ88]; exact zq_up_ne (zc_dk ksp (zc_p4_1 ksp) rfl)
          have t37 := zc_g4_13 hσ88 ksp
          have t38 : σ88 sp 13 = σ_48 sp 13 := by rw [eσ88]; exact zq_up_ne (zc_dk ksp (zc_p4_1 ksp) rfl)
          refine zr_sub (pc := 48) hV [some (ZR 3), some (ZR a), some (ZR b), none, some (ZI (x4_48 - r58)), some (ZI (x5_48 + 1)), none] (⟨rfl, rfl, rfl, rfl, rfl, trivial⟩) ?_
          exact ih48 (x4_48 - r58) (x5_48 + 1) σ88 (by omega) (by omega) hσ88 hFσ88 hOσ88 (by rw [eσ88, zq_up_ne (by omega)]; exact hi48_0) (by rw [eσ88, zq_up_ne (by omega)]; exact hi48_1) (by rw [eσ88, zq_up_ne (by omega)]; exact hi48_2) (by rw [eσ88, zq_up_ne (by omega)]; exact hi48_3) (by rw [eσ88, zq_up_ne (by omega)]; exact hi48_4) (by rw [eσ88, zq_up_ne (by omega)]; exact hi48_5) (by omega) (fun f h0 h1 => if hc : f = x5_48 then (by rw [hc, eσ88, zq_up_same]; exact zsh) else (by rw [eσ88, zq_up_ne (by omega)]; exact hi48_7 f h0 (by omega))) ⟨by rw [eσ88, zq_up_ne (zc_dk zc_s3 (zc_p4_1 ksp) rfl)]; exact hi48_8.1, by rw [eσ88, zq_up_ne (zc_dk zc_s3 (zc_p4_1 ksp) rfl)]; exact hi48_8.2.1, fun i => by rw [eσ88, zq_up_ne (zc_dk zc_s10 (zc_p4_1 ksp) rfl)]; exact hi48_8.2.2.1 i, fun i => by rw [eσ88, zq_up_ne (zc_dk zc_s11 (zc_p4_1 ksp) rfl)]; exact hi48_8.2.2.2 i⟩ (by omega)
    have t39 := zc_g4_1 hσ42 ksp
    have t40 : σ42 sp 1 = σ34 sp 1 := by rw [eσ42]; exact zq_up_ne (by omega)
    have t41 : σ34 sp 1 = r26 - (zq_shl 1 r16) := by rw [eσ34]; exact zq_up_same _ _ _ _
    have t42 := zc_g4_2 hσ42 ksp
    have t43 : σ42 sp 2 = r3 := by rw [eσ42]; exact zq_up_same _ _ _ _
    have t44 := zc_g4_6 hσ42 ksp
    have t45 : σ42 sp 6 = σ34 sp 6 := by rw [eσ42]; exact zq_up_ne (by omega)
    have t46 : σ34 sp 6 = σ sp 6 := by rw [eσ34]; exact zq_up_ne (by omega)
    have t47 := zc_g4_12 hσ42 ksp
    have t48 : σ42 sp 12 = σ34 sp 12 := by rw [eσ42]; exact zq_up_ne (by omega)
    have t49 : σ34 sp 12 = σ sp 12 := by rw [eσ34]; exact zq_up_ne (by omega)
    have t50 := zc_g4_13 hσ42 ksp
    have t51 : σ42 sp 13 = σ34 sp 13 := by rw [eσ42]; exact zq_up_ne (by omega)
    have t52 : σ34 sp 13 = σ sp 13 := by rw [eσ34]; exact zq_up_ne (by omega)
    refine zr_sub (pc := 48) hV [some (ZR 3), some (ZR a), some (ZR b), none, some (ZI r16), some (ZI 0), none] (⟨rfl, rfl, rfl, rfl, rfl, trivial⟩) ?_
    exact L48 (4 - (0 : Int) + 1 : Int).toNat r16 0 σ42 (by omega) (by omega) hσ42 hFσ42 hOσ42 (by rw [eσ42, zq_up_ne (by omega), eσ34, zq_up_ne (by omega)]; exact esp) m1 m2 m6 m12 m13 (by rw [zt_fw_0]; omega) (fun f h0 h1 => absurd h1 (by omega)) ⟨by rw [eσ42, zq_up_ne (zc_dk zc_s3 ksp rfl), eσ34, zq_up_ne (zc_dk zc_s3 ksp rfl)], by rw [eσ42, zq_up_ne (zc_dk zc_s3 ksp rfl), eσ34, zq_up_ne (zc_dk zc_s3 ksp rfl)], fun i => by rw [eσ42, zq_up_ne (zc_dk zc_s10 ksp rfl), eσ34, zq_up_ne (zc_dk zc_s10 ksp rfl)], fun i => by rw [eσ42, zq_up_ne (zc_dk zc_s11 ksp rfl), eσ34, zq_up_ne (zc_dk zc_s11 ksp rfl)]⟩ (by omega)
  · show V 11 [some (ZR 3), some (ZR a), some (ZR b), some (ZI r3), none, none, none] [] 284 σ
    refine zr_bipush (pc := 11) hV (-2) dX9_joinBoth_11 (by decide) ?_
    exact zr_iret (pc := 13) hV dX9_joinBoth_13 rfl rfl ⟨_, rfl, ⟨by decide, by decide⟩, hσ, hFσ, hOσ, trivial, (show zt_jb σ σ sp a b ((-2) : Int) from ⟨r3, pr3.2, fun _ => ⟨by omega, rfl, rfl, fun _ => rfl, fun _ => rfl⟩, fun h => absurd h (by omega)⟩)⟩
set_option maxHeartbeats 800000 in
theorem c_X9_numbered_2 {σ : zq_S} (hσ : zc_T σ) (number : Int) (q0 : zq_in number) : zq_C zc_w yX9_numbered cX9_numbered 2 (some (.object "OrdersTold$Order")) 0 0 284 284 [ZR 3, ZI number] σ (zq_pr σ (fun r => (0 ≤ r → zc_kd r = 4) ∧ ((0 ≤ r → 0 ≤ number ∧ number < σ 3 3 ∧ r = σ 10 number) ∧ (r < 0 → ¬ (0 ≤ number ∧ number < σ 3 3))))) := by
  refine zq_C_of (by decide) (Nat.le_refl _) (Nat.le_of_ble_eq_true rfl) [some (ZR 3), some (ZI number)] rfl (fun V hV => ?_)
  show V 0 [some (ZR 3), some (ZI number)] [] 284 σ
  refine zr_iload_n (pc := 0) hV dX9_numbered_0 rfl rfl ?_
  refine zr_if_lt (pc := 1) hV 21 dX9_numbered_1 (by decide) (by omega) (fun c1 => ?_) (fun c1 => ?_)
  · show V 21 [some (ZR 3), some (ZI number)] [] 284 σ
    refine zr_null (pc := 21) hV dX9_numbered_21 ?_
    show V 22 [some (ZR 3), some (ZI number)] [ZN] 284 σ
    exact zr_aretN (pc := 22) hV dX9_numbered_22 rfl rfl ⟨rfl, _, rfl, fun h => absurd h (by decide), (by omega)⟩
  · show V 4 [some (ZR 3), some (ZI number)] [] 284 σ
    refine zr_iload_n (pc := 4) hV dX9_numbered_4 rfl rfl ?_
    refine zr_aload_n (pc := 5) hV dX9_numbered_5 rfl rfl ?_
    refine zr_getI (pc := 6) hV 3 dX9_numbered_6 fX9_36 rfl rfl (zc_k3 zc_s3) (zc_pos zc_s3 rfl) ?_
    have t2 := zc_g3_3 hσ zc_s3
    refine zr_icmp_ge (pc := 9) hV 21 dX9_numbered_9 (by decide) (by omega) (by omega) (fun c3 => ?_) (fun c3 => ?_)
    · show V 21 [some (ZR 3), some (ZI number)] [] 284 σ
      refine zr_null (pc := 21) hV dX9_numbered_21 ?_
      show V 22 [some (ZR 3), some (ZI number)] [ZN] 284 σ
      exact zr_aretN (pc := 22) hV dX9_numbered_22 rfl rfl ⟨rfl, _, rfl, fun h => absurd h (by decide), (by omega)⟩
    · show V 12 [some (ZR 3), some (ZI number)] [] 284 σ
      refine zr_aload_n (pc := 12) hV dX9_numbered_12 rfl rfl ?_
      refine zr_getR (pc := 13) hV 6 10 dX9_numbered_13 fX9_18 rfl rfl (zc_k3 zc_s3) (zc_pos zc_s3 rfl) (zc_g3_6 hσ zc_s3) (by decide) ?_
      refine zr_iload_n (pc := 16) hV dX9_numbered_16 rfl rfl ?_
      have ga17 : zc_kd (σ 10 number) = 4 := zc_ga10 hσ zc_s10 number (by omega) (by omega)
      refine zr_aald (pc := 17) hV dX9_numbered_17 (zc_k10 zc_s10) (Or.inl rfl) (zc_pos zc_s10 rfl) rfl (by omega) (zc_pos ga17 rfl).1 ?_
      obtain ⟨o17, eo17⟩ : ∃ o, σ 10 number = o := ⟨_, rfl⟩
      rw [eo17] at ga17 ⊢
      have ko17 := ga17
      have po17 := zc_pos ko17 rfl
      show V 18 [some (ZR 3), some (ZI number)] [ZR o17] 284 σ
      refine zr_goto (pc := 18) hV 22 dX9_numbered_18 (by decide) ?_
      show V 22 [some (ZR 3), some (ZI number)] [ZR o17] 284 σ
      exact zr_aretR (pc := 22) hV dX9_numbered_22 rfl rfl (zc_pos ko17 rfl).1 ⟨rfl, _, rfl, fun _ => ko17, (by omega)⟩
set_option maxHeartbeats 800000 in
theorem c_X11_join_2 {σ : zq_S} (hσ : zc_T σ) (a : Int) (b : Int) (sp : Int) (esp : σ 3 5 = sp) (ksp : zc_kd sp = 4) (q0 : zq_in a) (q1 : zq_in b) (q2 : ∀ i, 0 ≤ i → i < 20 → σ 10 i ≠ sp) (q3 : ∀ i, 0 ≤ i → i < σ 3 3 → 0 ≤ σ (σ 10 i) 11 ∧ σ (σ 10 i) 11 ≤ 1000) (Uσ : zc_U σ) : zq_C zc_w yX11_join cX11_join 7 (some .int) 6 137 284 284 [ZR 0, ZI a, ZI b] σ (zq_pi (fun r τ => zc_T τ ∧ zc_Fr [(1, 1), (1, 2), (1, 3), (3, 3), (3, 5), (4, 0), (4, 1), (4, 2), (4, 4), (4, 5), (4, 6), (4, 11), (4, 12), (4, 13), (4, 14), (4, 15), (4, 16), (5, -1), (6, -1), (7, -1), (8, -1), (9, -1), (10, -1), (11, -1)] σ τ ∧ zd_Own sp σ τ ∧ (True) ∧ zq_hid (zt_jn σ τ sp a b r) ∧ zc_U τ)) := by
  refine zq_C_of (by decide) (Nat.le_refl _) (Nat.le_of_ble_eq_true rfl) [some (ZR 0), some (ZI a), some (ZI b), none, none, none, none] rfl (fun V hV => ?_)
  have hFσ := zc_Fr_rf [(1, 1), (1, 2), (1, 3), (3, 3), (3, 5), (4, 0), (4, 1), (4, 2), (4, 4), (4, 5), (4, 6), (4, 11), (4, 12), (4, 13), (4, 14), (4, 15), (4, 16), (5, -1), (6, -1), (7, -1), (8, -1), (9, -1), (10, -1), (11, -1)] σ
  have hOσ := zd_Own_rf sp σ
  have posp := zc_pos ksp rfl
  have z33 := zc_g3_3 hσ zc_s3
  show V 0 [some (ZR 0), some (ZI a), some (ZI b), none, none, none, none] [] 284 σ
  refine zr_aload_n (pc := 0) hV dX11_join_0 rfl rfl ?_
  refine zr_getR (pc := 1) hV 1 3 dX11_join_1 fX11_19 rfl rfl (zc_k0 zc_s0) (zc_pos zc_s0 rfl) (zc_g0_1 hσ zc_s0) (by decide) ?_
  refine zr_iload_n (pc := 4) hV dX11_join_4 rfl rfl ?_
  refine zr_callVr (pc := 5) hV [ZI a] (st := []) (c_X9_numbered_2 (σ := σ) hσ a (by omega)) dX11_join_5 mX11_117 (zc_k3 zc_s3) (zc_pos zc_s3 rfl) (by decide) (Nat.le_of_ble_eq_true rfl) (Nat.le_refl _) (fun r5 pr5 => ?_)
  refine zr_astore_nQ (pc := 8) hV [some (ZR 0), some (ZI a), some (ZI b), some (zq_nr r5), none, none, none] dX11_join_8 rfl (by decide) rfl rfl ?_
  refine zr_aload_n (pc := 9) hV dX11_join_9 rfl rfl ?_
  refine zr_getR (pc := 10) hV 1 3 dX11_join_10 fX11_19 rfl rfl (zc_k0 zc_s0) (zc_pos zc_s0 rfl) (zc_g0_1 hσ zc_s0) (by decide) ?_
  refine zr_iload_n (pc := 13) hV dX11_join_13 rfl rfl ?_
  refine zr_callVr (pc := 14) hV [ZI b] (st := []) (c_X9_numbered_2 (σ := σ) hσ b (by omega)) dX11_join_14 mX11_117 (zc_k3 zc_s3) (zc_pos zc_s3 rfl) (by decide) (Nat.le_of_ble_eq_true rfl) (Nat.le_refl _) (fun r14 pr14 => ?_)
  refine zr_astoreQ (pc := 17) hV [some (ZR 0), some (ZI a), some (ZI b), some (zq_nr r5), some (zq_nr r14), none, none] dX11_join_17 (by decide) (by simp only [zq_nr]; split <;> rfl) rfl ?_
  refine zr_aload_nQ (pc := 19) hV dX11_join_19 rfl rfl ?_
  by_cases c1 : r5 < 0
  · rw [zq_nr_n c1]
    refine zr_ifnullN (pc := 20) hV 28 dX11_join_20 (by decide) ?_
    show V 28 [some (ZR 0), some (ZI a), some (ZI b), some (ZN), some (zq_nr r14), none, none] [] 284 σ
    refine zr_iconst (pc := 28) hV (-1) dX11_join_28 rfl ?_
    exact zr_iret (pc := 29) hV dX11_join_29 rfl rfl ⟨_, rfl, ⟨by decide, by decide⟩, hσ, hFσ, hOσ, trivial, (show zt_jn σ σ sp a b ((-1) : Int) from ⟨fun _ => ⟨by omega, rfl, rfl, rfl, fun _ => rfl, fun _ => rfl⟩, fun h => by first | exact absurd ⟨h.1, h.2.1⟩ (pr5.2.2 (by omega)) | exact absurd ⟨h.2.2.1, h.2.2.2⟩ (pr14.2.2 (by omega))⟩), Uσ⟩
  · rw [zq_nr_p c1]
    have kr5 : zc_kd r5 = 4 := pr5.1 (by omega)
    have por5 := zc_pos kr5 rfl
    refine zr_ifnull (pc := 20) hV dX11_join_20 ?_
    show V 23 [some (ZR 0), some (ZI a), some (ZI b), some (ZR r5), some (zq_nr r14), none, none] [] 284 σ
    refine zr_aloadQ (pc := 23) hV dX11_join_23 rfl ?_
    by_cases c2 : r14 < 0
    · rw [zq_nr_n c2]
      refine zr_ifnonnullN (pc := 25) hV dX11_join_25 ?_
      show V 28 [some (ZR 0), some (ZI a), some (ZI b), some (ZR r5), some (ZN), none, none] [] 284 σ
      refine zr_iconst (pc := 28) hV (-1) dX11_join_28 rfl ?_
      exact zr_iret (pc := 29) hV dX11_join_29 rfl rfl ⟨_, rfl, ⟨by decide, by decide⟩, hσ, hFσ, hOσ, trivial, (show zt_jn σ σ sp a b ((-1) : Int) from ⟨fun _ => ⟨by omega, rfl, rfl, rfl, fun _ => rfl, fun _ => rfl⟩, fun h => by first | exact absurd ⟨h.1, h.2.1⟩ (pr5.2.2 (by omega)) | exact absurd ⟨h.2.2.1, h.2.2.2⟩ (pr14.2.2 (by omega))⟩), Uσ⟩
    · rw [zq_nr_p c2]
      have kr14 : zc_kd r14 = 4 := pr14.1 (by omega)
      have por14 := zc_pos kr14 rfl
      refine zr_ifnonnull (pc := 25) hV 30 dX11_join_25 (by decide) ?_
      show V 30 [some (ZR 0), some (ZI a), some (ZI b), some (ZR r5), some (ZR r14), none, none] [] 284 σ
      refine zr_aload_n (pc := 30) hV dX11_join_30 rfl rfl ?_
      refine zr_getR (pc := 31) hV 2 132 dX11_join_31 fX11_28 rfl rfl (zc_k0 zc_s0) (zc_pos zc_s0 rfl) (zc_g0_2 hσ zc_s0) (by decide) ?_
      refine zr_callVi (pc := 34) hV [] (st := []) (c_X4_readNameAlone_2 (σ := σ) hσ sp (by omega) ksp) dX11_join_34 mX11_267 (zc_k132 zc_s132) (zc_pos zc_s132 rfl) (by decide) (Nat.le_of_ble_eq_true rfl) (Nat.le_refl _) (fun r34 σ34 hr34 pσ34 => ?_)
      obtain ⟨hσ34, hfσ34, hoσ34, pσ34, wσ34⟩ := pσ34
      have hFσ34 := zc_Fc hfσ34 rfl hFσ
      have hOσ34 := zd_Oo hoσ34 hOσ
      have Uσ34 : zc_U σ34 := zc_U_fr hfσ34 rfl hσ Uσ
      have t3 := zc_g1_1 hσ zc_s1
      have t4 := zc_g4_1 hσ34 ksp
      have t5 := zc_g4_11 hσ34 ksp
      have t6 := zc_g4_12 hσ34 ksp
      have t7 := zc_g4_13 hσ34 ksp
      have t8 := zc_g4_14 hσ34 ksp
      have t9 := zc_g4_15 hσ34 ksp
      have t10 := zc_g4_16 hσ34 ksp
      have t11 := zc_g4_2 hσ34 ksp
      have t12 := zc_g4_4 hσ34 ksp
      have t13 := zc_g4_5 hσ34 ksp
      have t14 := zc_g4_6 hσ34 ksp
      have u5 := pr5.2.1 (by omega)
      have u14 := pr14.2.1 (by omega)
      have d3 : σ34 3 3 = σ 3 3 := hfσ34 3 3 (zc_out_at zc_s3 rfl)
      have dc : ∀ i, 0 ≤ i → i < σ 3 3 → σ34 (σ34 10 i) 0 = σ (σ 10 i) 0 := fun i h0 h1 => by rw [hfσ34 10 i (zc_out_ar zc_s10 rfl)]; have kd := zc_ga10 hσ zc_s10 i (by omega) (by omega); have := zt_own4 (k := 0) kd ksp (q2 i h0 (by omega)) (by omega) (by omega); exact hoσ34 _ _ (by rw [kd]; decide) (by rw [kd]; decide) (by omega)
      have dq : (∃ i, 0 ≤ i ∧ i < σ34 3 3 ∧ σ34 (σ34 10 i) 0 = zt_na (σ 2) (zt_z0 (σ 2) (σ 1 1)) (zt_n0 (σ 2) (σ 1 1))) ↔ (∃ i, 0 ≤ i ∧ i < σ 3 3 ∧ σ (σ 10 i) 0 = zt_na (σ 2) (zt_z0 (σ 2) (σ 1 1)) (zt_n0 (σ 2) (σ 1 1))) := ⟨fun ⟨i, h0, h1, h2⟩ => ⟨i, h0, by omega, by rw [← dc i h0 (by omega)]; exact h2⟩, fun ⟨i, h0, h1, h2⟩ => ⟨i, h0, by omega, by rw [dc i h0 h1]; exact h2⟩⟩
      have ndq : (∀ i, 0 ≤ i → i < σ34 3 3 → σ34 (σ34 10 i) 0 ≠ zt_na (σ 2) (zt_z0 (σ 2) (σ 1 1)) (zt_n0 (σ 2) (σ 1 1))) → ¬ (∃ i, 0 ≤ i ∧ i < σ 3 3 ∧ σ (σ 10 i) 0 = zt_na (σ 2) (zt_z0 (σ 2) (σ 1 1)) (zt_n0 (σ 2) (σ 1 1))) := fun v ⟨i, h0, h1, h2⟩ => v i h0 (by omega) (by rw [dc i h0 h1]; exact h2)
      refine zr_istore (pc := 37) hV [some (ZR 0), some (ZI a), some (ZI b), some (ZR r5), some (ZR r14), some (ZI r34), none] dX11_join_37 (by decide) rfl rfl ?_
      refine zr_aload_n (pc := 39) hV dX11_join_39 rfl rfl ?_
      refine zr_getR (pc := 40) hV 0 1 dX11_join_40 fX11_10 rfl rfl (zc_k0 zc_s0) (zc_pos zc_s0 rfl) (zc_g0_0 hσ34 zc_s0) (by decide) ?_
      refine zr_callVp (pc := 43) hV [] (st := []) (c_X8_fault_2 (σ := σ34) hσ34) dX11_join_43 mX11_101 (zc_k1 zc_s1) (zc_pos zc_s1 rfl) (by decide) (Nat.le_of_ble_eq_true rfl) (Nat.le_refl _) (fun r43 hr43 pr43 => ?_)
      have t15 := zc_g1_2 hσ34 zc_s1
      refine zr_istore (pc := 46) hV [some (ZR 0), some (ZI a), some (ZI b), some (ZR r5), some (ZR r14), some (ZI r34), some (ZI r43)] dX11_join_46 (by decide) rfl rfl ?_
      refine zr_aload_n (pc := 48) hV dX11_join_48 rfl rfl ?_
      refine zr_getR (pc := 49) hV 0 1 dX11_join_49 fX11_10 rfl rfl (zc_k0 zc_s0) (zc_pos zc_s0 rfl) (zc_g0_0 hσ34 zc_s0) (by decide) ?_
      refine zr_callVv (pc := 52) hV [] (st := []) (c_X8_empty_2 (σ := σ34) hσ34) dX11_join_52 mX11_104 (zc_k1 zc_s1) (zc_pos zc_s1 rfl) (by decide) (Nat.le_of_ble_eq_true rfl) (Nat.le_refl _) (fun σ52 pσ52 => ?_)
      obtain ⟨hσ52, hfσ52, pσ52⟩ := pσ52
      have hFσ52 := zc_Fc hfσ52 rfl hFσ34
      have hOσ52 := zd_Oc hfσ52 rfl hOσ34
      have Uσ52 : zc_U σ52 := zc_U_fr hfσ52 rfl hσ34 Uσ34
      have t16 := zc_g1_1 hσ52 zc_s1
      have t17 := zc_g1_2 hσ52 zc_s1
      refine zr_iload (pc := 55) hV dX11_join_55 rfl ?_
      refine zr_if_eq (pc := 57) hV 73 dX11_join_57 (by decide) (by omega) (fun c18 => ?_) (fun c18 => ?_)
      · show V 73 [some (ZR 0), some (ZI a), some (ZI b), some (ZR r5), some (ZR r14), some (ZI r34), some (ZI r43)] [] 284 σ52
        refine zr_iload (pc := 73) hV dX11_join_73 rfl ?_
        show V 75 [some (ZR 0), some (ZI a), some (ZI b), some (ZR r5), some (ZR r14), some (ZI r34), some (ZI r43)] [ZI r43] 284 σ52
        exact zr_iret (pc := 75) hV dX11_join_75 rfl rfl ⟨_, rfl, (by omega), hσ52, hFσ52, hOσ52, trivial, (show zt_jn σ σ52 sp a b r43 from ((wσ34.2.1 (by omega)).elim (fun v => ⟨(fun h => absurd ⟨u5.1, u5.2.1, u14.1, u14.2.1⟩ h), fun _ => ⟨by omega, fun _ => ⟨by have q : σ34 1 2 = (zt_z0 (σ 2) (σ 1 1)) := v.2; omega, ⟨by rw [hfσ52 3 _ (zc_out_at zc_s3 rfl), hfσ34 3 _ (zc_out_at zc_s3 rfl)], by rw [hfσ52 3 _ (zc_out_at zc_s3 rfl), hfσ34 3 _ (zc_out_at zc_s3 rfl)], fun i => by rw [hfσ52 10 _ (zc_out_ar zc_s10 rfl), hfσ34 10 _ (zc_out_ar zc_s10 rfl)], fun i => by rw [hfσ52 11 _ (zc_out_ar zc_s11 rfl), hfσ34 11 _ (zc_out_ar zc_s11 rfl)]⟩⟩, fun nd _ => absurd (v.1.imp id dq.mp) nd, fun nd _ => absurd (v.1.imp id dq.mp) nd⟩⟩) (fun v => ⟨(fun h => absurd ⟨u5.1, u5.2.1, u14.1, u14.2.1⟩ h), fun _ => ⟨by omega, fun d => d.elim (fun e => absurd e v.1) (fun e => absurd e (ndq v.2.1)), fun _ _ => ⟨by have q : σ34 1 2 = zt_sk (σ 2) (σ 1 1) (zt_p0 (σ 2) (σ 1 1)) := v.2.2.2; omega, ⟨by rw [hfσ52 3 _ (zc_out_at zc_s3 rfl), hfσ34 3 _ (zc_out_at zc_s3 rfl)], by rw [hfσ52 3 _ (zc_out_at zc_s3 rfl), hfσ34 3 _ (zc_out_at zc_s3 rfl)], fun i => by rw [hfσ52 10 _ (zc_out_ar zc_s10 rfl), hfσ34 10 _ (zc_out_ar zc_s10 rfl)], fun i => by rw [hfσ52 11 _ (zc_out_ar zc_s11 rfl), hfσ34 11 _ (zc_out_ar zc_s11 rfl)]⟩⟩, fun _ nx => absurd nx v.2.2.1⟩⟩))), Uσ52⟩
      · show V 60 [some (ZR 0), some (ZI a), some (ZI b), some (ZR r5), some (ZR r14), some (ZI r34), some (ZI r43)] [] 284 σ52
        have nr5 : r5 ≠ sp := by rw [u5.2.2]; exact q2 a u5.1 (by omega)
        have nr14 : r14 ≠ sp := by rw [u14.2.2]; exact q2 b u14.1 (by omega)
        have t5 : σ52 r5 11 = σ r5 11 := hOσ52 r5 11 (by rw [kr5]; decide) (by rw [kr5]; decide) (by have := zt_own4 (k := 0) kr5 ksp nr5 (by omega) (by omega); omega)
        have t14 : σ52 r14 11 = σ r14 11 := hOσ52 r14 11 (by rw [kr14]; decide) (by rw [kr14]; decide) (by have := zt_own4 (k := 0) kr14 ksp nr14 (by omega) (by omega); omega)
        have h5 : 0 ≤ σ r5 11 ∧ σ r5 11 ≤ 1000 := by rw [u5.2.2]; exact q3 a u5.1 u5.2.1
        have h14 : 0 ≤ σ r14 11 ∧ σ r14 11 ≤ 1000 := by rw [u14.2.2]; exact q3 b u14.1 u14.2.1
        have s6 : σ52 sp 6 = 0 := by rw [hfσ52 sp 6 (zc_out_at ksp rfl)]; omega
        have s12 : σ52 sp 12 = 0 := by rw [hfσ52 sp 12 (zc_out_at ksp rfl)]; omega
        have s13 : σ52 sp 13 = 0 := by rw [hfσ52 sp 13 (zc_out_at ksp rfl)]; omega
        refine zr_aload_n (pc := 60) hV dX11_join_60 rfl rfl ?_
        refine zr_getR (pc := 61) hV 1 3 dX11_join_61 fX11_19 rfl rfl (zc_k0 zc_s0) (zc_pos zc_s0 rfl) (zc_g0_1 hσ52 zc_s0) (by decide) ?_
        refine zr_aload_n (pc := 64) hV dX11_join_64 rfl rfl ?_
        refine zr_aload (pc := 65) hV dX11_join_65 rfl ?_
        have t19 := zc_g4_11 hσ52 kr5
        have t20 : σ52 r5 11 = σ34 r5 11 := hfσ52 _ _ (zc_out_at kr5 rfl)
        have t21 := zc_g4_11 hσ52 kr14
        have t22 : σ52 r14 11 = σ34 r14 11 := hfσ52 _ _ (zc_out_at kr14 rfl)
        have t23 := zc_g4_12 hσ52 ksp
        have t24 : σ52 sp 12 = σ34 sp 12 := hfσ52 _ _ (zc_out_at ksp rfl)
        have t25 := zc_g4_13 hσ52 ksp
        have t26 : σ52 sp 13 = σ34 sp 13 := hfσ52 _ _ (zc_out_at ksp rfl)
        have t27 := zc_g4_6 hσ52 ksp
        have t28 : σ52 sp 6 = σ34 sp 6 := hfσ52 _ _ (zc_out_at ksp rfl)
        have t29 : σ52 3 5 = σ34 3 5 := hfσ52 _ _ (zc_out_at zc_s3 rfl)
        have t30 : σ34 3 5 = σ 3 5 := hfσ34 _ _ (zc_out_at zc_s3 rfl)
        refine zr_callVi (pc := 67) hV [ZR r5, ZR r14] (st := []) (c_X9_joinBoth_2 (σ := σ52) hσ52 r5 kr5 r14 kr14 sp (by omega) ksp (by omega) (by omega) (by omega) (by omega) (by omega)) dX11_join_67 mX11_270 (zc_k3 zc_s3) (zc_pos zc_s3 rfl) (by decide) (Nat.le_of_ble_eq_true rfl) (Nat.le_refl _) (fun r67 σ67 hr67 pσ67 => ?_)
        obtain ⟨hσ67, hfσ67, hoσ67, pσ67, wσ67⟩ := pσ67
        have hFσ67 := zc_Fc hfσ67 rfl hFσ52
        have hOσ67 := zd_Oo hoσ67 hOσ52
        have Uσ67 : zc_U σ67 := zc_U_fr hfσ67 rfl hσ52 Uσ52
        refine zr_goto (pc := 70) hV 75 dX11_join_70 (by decide) ?_
        show V 75 [some (ZR 0), some (ZI a), some (ZI b), some (ZR r5), some (ZR r14), some (ZI r34), some (ZI r43)] [ZI r67] 284 σ67
        exact zr_iret (pc := 75) hV dX11_join_75 rfl rfl ⟨_, rfl, (by omega), hσ67, hFσ67, hOσ67, trivial, (show zt_jn σ σ67 sp a b r67 from (by have v := wσ34.1 (by omega); exact ⟨(fun h => absurd ⟨u5.1, u5.2.1, u14.1, u14.2.1⟩ h), fun _ => ⟨by rw [hfσ67 1 1 (zc_out_at zc_s1 rfl)]; omega, fun d => d.elim (fun e => absurd e v.2.1) (fun e => absurd e (ndq v.2.2.1)), fun _ nx => absurd v.2.2.2 nx, fun _ _ => ⟨by rw [hfσ67 sp 0 (zc_out_at ksp rfl), hfσ52 sp 0 (zc_out_at ksp rfl)]; exact v.1, by rw [hfσ67 sp 4 (zc_out_at ksp rfl), hfσ52 sp 4 (zc_out_at ksp rfl)]; omega, by rw [hfσ67 sp 5 (zc_out_at ksp rfl), hfσ52 sp 5 (zc_out_at ksp rfl)]; omega, by rw [hfσ67 sp 15 (zc_out_at ksp rfl), hfσ52 sp 15 (zc_out_at ksp rfl)]; omega, by rw [hfσ67 sp 16 (zc_out_at ksp rfl), hfσ52 sp 16 (zc_out_at ksp rfl)]; omega, by rw [← u5.2.2, ← u14.2.2]; exact zt_jb_fr (by rw [hfσ52 3 _ (zc_out_at zc_s3 rfl), hfσ34 3 _ (zc_out_at zc_s3 rfl)]) (by rw [hfσ52 3 _ (zc_out_at zc_s3 rfl), hfσ34 3 _ (zc_out_at zc_s3 rfl)]) (by rw [hfσ52 3 _ (zc_out_at zc_s3 rfl), hfσ34 3 _ (zc_out_at zc_s3 rfl)]) (fun i => by rw [hfσ52 10 _ (zc_out_ar zc_s10 rfl), hfσ34 10 _ (zc_out_ar zc_s10 rfl)]) (fun i => by rw [hfσ52 11 _ (zc_out_ar zc_s11 rfl), hfσ34 11 _ (zc_out_ar zc_s11 rfl)]) (fun i => hOσ52 r5 i (by rw [kr5]; decide) (by rw [kr5]; decide) (by have := zt_own4 (k := 0) kr5 ksp nr5 (by omega) (by omega); omega)) (fun i => hOσ52 r14 i (by rw [kr14]; decide) (by rw [kr14]; decide) (by have := zt_own4 (k := 0) kr14 ksp nr14 (by omega) (by omega); omega)) (funext (fun j => hOσ52 (r5 + 1) j (by rw [(zc_p4_1 kr5)]; decide) (by rw [(zc_p4_1 kr5)]; decide) (zt_own4 kr5 ksp nr5 (by omega) (by omega)))) (funext (fun j => hOσ52 (r14 + 1) j (by rw [(zc_p4_1 kr14)]; decide) (by rw [(zc_p4_1 kr14)]; decide) (zt_own4 kr14 ksp nr14 (by omega) (by omega)))) (funext (fun j => hOσ52 (r5 + 2) j (by rw [(zc_p4_2 kr5)]; decide) (by rw [(zc_p4_2 kr5)]; decide) (zt_own4 kr5 ksp nr5 (by omega) (by omega)))) (funext (fun j => hOσ52 (r14 + 2) j (by rw [(zc_p4_2 kr14)]; decide) (by rw [(zc_p4_2 kr14)]; decide) (zt_own4 kr14 ksp nr14 (by omega) (by omega)))) (funext (fun j => hOσ52 (r5 + 3) j (by rw [(zc_p4_3 kr5)]; decide) (by rw [(zc_p4_3 kr5)]; decide) (zt_own4 kr5 ksp nr5 (by omega) (by omega)))) (funext (fun j => hOσ52 (r14 + 3) j (by rw [(zc_p4_3 kr14)]; decide) (by rw [(zc_p4_3 kr14)]; decide) (zt_own4 kr14 ksp nr14 (by omega) (by omega)))) (funext (fun j => hOσ52 (r5 + 4) j (by rw [(zc_p4_4 kr5)]; decide) (by rw [(zc_p4_4 kr5)]; decide) (zt_own4 kr5 ksp nr5 (by omega) (by omega)))) (funext (fun j => hOσ52 (r14 + 4) j (by rw [(zc_p4_4 kr14)]; decide) (by rw [(zc_p4_4 kr14)]; decide) (zt_own4 kr14 ksp nr14 (by omega) (by omega)))) (funext (fun j => hOσ52 (r5 + 5) j (by rw [(zc_p4_5 kr5)]; decide) (by rw [(zc_p4_5 kr5)]; decide) (zt_own4 kr5 ksp nr5 (by omega) (by omega)))) (funext (fun j => hOσ52 (r14 + 5) j (by rw [(zc_p4_5 kr14)]; decide) (by rw [(zc_p4_5 kr14)]; decide) (zt_own4 kr14 ksp nr14 (by omega) (by omega)))) wσ67⟩⟩⟩)), Uσ67⟩
