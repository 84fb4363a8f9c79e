set_option maxHeartbeats 800000 in
theorem c_X9_nameNumber_2 {σ : zq_S} (hσ : zc_T σ) (name : Int) (q0 : zq_in name) : zq_C zc_w yX9_nameNumber cX9_nameNumber 3 (some .int) 0 0 284 284 [ZR 3, ZI name] σ (zq_pp σ (fun r => (-1 ≤ r ∧ r < σ 3 3) ∧ (r = -1 → ∀ i, 0 ≤ i → i < σ 3 3 → σ (σ 10 i) 0 ≠ name) ∧ (0 ≤ r → σ (σ 10 r) 0 = name))) := by
  refine zq_C_of (by decide) (Nat.le_refl _) (Nat.le_of_ble_eq_true rfl) [some (ZR 3), some (ZI name), none] rfl (fun V hV => ?_)
  show V 0 [some (ZR 3), some (ZI name), none] [] 284 σ
  refine zr_iconst (pc := 0) hV 0 dX9_nameNumber_0 rfl ?_
  refine zr_istore_n (pc := 1) hV [some (ZR 3), some (ZI name), some (ZI 0)] dX9_nameNumber_1 rfl (by decide) rfl rfl ?_
  have L2 : ∀ (fuel : Nat) (x2_2 : Int), (0 ≤ x2_2 ∧ x2_2 ≤ 20) → (zq_hid (∀ i, 0 ≤ i → i < x2_2 → σ (σ 10 i) 0 ≠ name)) → 20 - x2_2 < (fuel : Int) → V 2 [some (ZR 3), some (ZI name), some (ZI x2_2)] [] 284 σ := by
    intro fuel
    induction fuel with
    | zero =>
      intro x2_2 hx2_2 hi2_0 hm2
      exfalso; omega
    | succ fuel ih =>
      intro x2_2 hx2_2 hi2_0 hm2
      have ih2 := ih
      show V 2 [some (ZR 3), some (ZI name), some (ZI x2_2)] [] 284 σ
      refine zr_iload_n (pc := 2) hV dX9_nameNumber_2 rfl rfl ?_
      refine zr_aload_n (pc := 3) hV dX9_nameNumber_3 rfl rfl ?_
      refine zr_getI (pc := 4) hV 3 dX9_nameNumber_4 fX9_36 rfl rfl (zc_k3 zc_s3) (zc_pos zc_s3 rfl) ?_
      have t1 := zc_g3_3 hσ zc_s3
      refine zr_icmp_ge (pc := 7) hV 31 dX9_nameNumber_7 (by decide) (by omega) (by omega) (fun c2 => ?_) (fun c2 => ?_)
      · show V 31 [some (ZR 3), some (ZI name), some (ZI x2_2)] [] 284 σ
        refine zr_iconst (pc := 31) hV (-1) dX9_nameNumber_31 rfl ?_
        exact zr_iret (pc := 32) hV dX9_nameNumber_32 rfl rfl ⟨rfl, _, rfl, ⟨by decide, by decide⟩, ⟨by omega, fun _ i h0 h1 => hi2_0 i h0 (by omega), fun h => absurd h (by omega)⟩⟩
      · show V 10 [some (ZR 3), some (ZI name), some (ZI x2_2)] [] 284 σ
        refine zr_aload_n (pc := 10) hV dX9_nameNumber_10 rfl rfl ?_
        refine zr_getR (pc := 11) hV 6 10 dX9_nameNumber_11 fX9_18 rfl rfl (zc_k3 zc_s3) (zc_pos zc_s3 rfl) (zc_g3_6 hσ zc_s3) (by decide) ?_
        refine zr_iload_n (pc := 14) hV dX9_nameNumber_14 rfl rfl ?_
        have ga15 : zc_kd (σ 10 x2_2) = 4 := zc_ga10 hσ zc_s10 x2_2 (by omega) (by omega)
        refine zr_aald (pc := 15) hV dX9_nameNumber_15 (zc_k10 zc_s10) (Or.inl rfl) (zc_pos zc_s10 rfl) rfl (by omega) (zc_pos ga15 rfl).1 ?_
        obtain ⟨o15, eo15⟩ : ∃ o, σ 10 x2_2 = o := ⟨_, rfl⟩
        rw [eo15] at ga15 ⊢
        have ko15 := ga15
        have po15 := zc_pos ko15 rfl
        show V 16 [some (ZR 3), some (ZI name), some (ZI x2_2)] [ZR o15] 284 σ
        refine zr_getI (pc := 16) hV 0 dX9_nameNumber_16 fX9_60 rfl rfl (zc_k4 ko15) (zc_pos ko15 rfl) ?_
        have t3 := zc_g4_0 hσ ko15
        refine zr_iload_n (pc := 19) hV dX9_nameNumber_19 rfl rfl ?_
        refine zr_icmp_ne (pc := 20) hV 25 dX9_nameNumber_20 (by decide) (by omega) (by omega) (fun c4 => ?_) (fun c4 => ?_)
        · show V 25 [some (ZR 3), some (ZI name), some (ZI x2_2)] [] 284 σ
          refine zr_iinc (pc := 25) hV [some (ZR 3), some (ZI name), some (ZI (x2_2 + 1))] (x2_2 + 1) dX9_nameNumber_25 rfl rfl (by decide) rfl rfl ?_
          refine zr_goto (pc := 28) hV 2 dX9_nameNumber_28 (by decide) ?_
          exact ih2 (x2_2 + 1) (by omega) (fun i h0 h1 => if hc : i = x2_2 then (by rw [hc, eo15]; omega) else hi2_0 i h0 (by omega)) (by omega)
        · show V 23 [some (ZR 3), some (ZI name), some (ZI x2_2)] [] 284 σ
          refine zr_iload_n (pc := 23) hV dX9_nameNumber_23 rfl rfl ?_
          exact zr_iret (pc := 24) hV dX9_nameNumber_24 rfl rfl ⟨rfl, _, rfl, (by omega), ⟨by omega, fun h => absurd h (by omega), fun _ => by rw [eo15]; omega⟩⟩
  exact L2 (20 - (0 : Int) + 1 : Int).toNat 0 (by omega) (fun i h0 h1 => absurd h1 (by omega)) (by omega)
set_option maxHeartbeats 800000 in
theorem c_X4_readNewName_2 {σ : zq_S} (hσ : zc_T σ) (sp : Int) (esp : σ 3 5 = sp) (ksp : zc_kd sp = 4)  : zq_C zc_w yX4_readNewName cX4_readNewName 2 (some .boolean) 2 43 284 284 [ZR 132] σ (zq_pi (fun r τ => zc_T τ ∧ zc_Fr [(1, 2), (1, 3), (4, 0), (4, 1), (4, 2), (4, 4), (4, 5), (4, 6), (4, 11), (4, 12), (4, 13), (4, 14), (4, 15), (4, 16), (5, -1)] σ τ ∧ zd_Own sp σ τ ∧ ((0 ≤ r ∧ r ≤ 1) ∧ (r = 1 → τ 1 2 = (zt_sk (σ 2) (σ 1 1) 0) + (zt_nl (σ 2) (σ 1 1) (zt_sk (σ 2) (σ 1 1) 0))) ∧ (r = 0 → τ 1 2 = (zt_sk (σ 2) (σ 1 1) 0)) ∧ τ sp 1 = 0 ∧ τ sp 2 = 0 ∧ τ sp 4 = 0 ∧ τ sp 5 = 0 ∧ τ sp 6 = 0 ∧ τ sp 11 = 0 ∧ τ sp 12 = 0 ∧ τ sp 13 = 0 ∧ τ sp 14 = 0 ∧ τ sp 15 = -1 ∧ τ sp 16 = -1) ∧ zq_hid ((r = 1 → τ sp 0 = (zt_na (σ 2) (zt_sk (σ 2) (σ 1 1) 0) (zt_nl (σ 2) (σ 1 1) (zt_sk (σ 2) (σ 1 1) 0))) ∧ (zt_nl (σ 2) (σ 1 1) (zt_sk (σ 2) (σ 1 1) 0)) ≠ 0 ∧ ∀ i, 0 ≤ i → i < τ 3 3 → τ (τ 10 i) 0 ≠ (zt_na (σ 2) (zt_sk (σ 2) (σ 1 1) 0) (zt_nl (σ 2) (σ 1 1) (zt_sk (σ 2) (σ 1 1) 0)))) ∧ (r = 0 → (zt_nl (σ 2) (σ 1 1) (zt_sk (σ 2) (σ 1 1) 0)) = 0 ∨ ∃ i, 0 ≤ i ∧ i < τ 3 3 ∧ τ (τ 10 i) 0 = (zt_na (σ 2) (zt_sk (σ 2) (σ 1 1) 0) (zt_nl (σ 2) (σ 1 1) (zt_sk (σ 2) (σ 1 1) 0)))) ∧ ∀ j, 0 ≤ j → j ≤ 3 → τ (sp + 1) j = 0))) := by
  refine zq_C_of (by decide) (Nat.le_refl _) (Nat.le_of_ble_eq_true rfl) [some (ZR 132), none] rfl (fun V hV => ?_)
  have hFσ := zc_Fr_rf [(1, 2), (1, 3), (4, 0), (4, 1), (4, 2), (4, 4), (4, 5), (4, 6), (4, 11), (4, 12), (4, 13), (4, 14), (4, 15), (4, 16), (5, -1)] σ
  have hOσ := zd_Own_rf sp σ
  have posp := zc_pos ksp rfl
  show V 0 [some (ZR 132), none] [] 284 σ
  refine zr_aload_n (pc := 0) hV dX4_readNewName_0 rfl rfl ?_
  refine zr_getR (pc := 1) hV 1 3 dX4_readNewName_1 fX4_19 rfl rfl (zc_k132 zc_s132) (zc_pos zc_s132 rfl) (zc_g132_1 hσ zc_s132) (by decide) ?_
  refine zr_getR (pc := 4) hV 5 sp dX4_readNewName_4 fX4_49 rfl rfl (zc_k3 zc_s3) (zc_pos zc_s3 rfl) (by omega) (zc_pos ksp rfl).1 ?_
  refine zr_astore_n (pc := 7) hV [some (ZR 132), some (ZR sp)] dX4_readNewName_7 rfl (by decide) rfl rfl ?_
  refine zr_aload_n (pc := 8) hV dX4_readNewName_8 rfl rfl ?_
  refine zr_callVv (pc := 9) hV [] (st := []) (c_X3_clear_2 (σ := σ) hσ sp ksp) dX4_readNewName_9 mX4_55 (zc_k4 ksp) (zc_pos ksp rfl) (by decide) (Nat.le_of_ble_eq_true rfl) (Nat.le_refl _) (fun σ9 pσ9 => ?_)
  obtain ⟨hσ9, hfσ9, hoσ9, pσ9, wσ9⟩ := pσ9
  have hFσ9 := zc_Fc hfσ9 rfl hFσ
  have hOσ9 := zd_Oo hoσ9 hOσ
  have t1 := zc_g4_0 hσ9 ksp
  have t2 := zc_g4_1 hσ9 ksp
  have t3 := zc_g4_11 hσ9 ksp
  have t4 := zc_g4_12 hσ9 ksp
  have t5 := zc_g4_13 hσ9 ksp
  have t6 := zc_g4_14 hσ9 ksp
  have t7 := zc_g4_15 hσ9 ksp
  have t8 := zc_g4_16 hσ9 ksp
  have t9 := zc_g4_2 hσ9 ksp
  have t10 := zc_g4_4 hσ9 ksp
  have t11 := zc_g4_5 hσ9 ksp
  have t12 := zc_g4_6 hσ9 ksp
  refine zr_aload_n (pc := 12) hV dX4_readNewName_12 rfl rfl ?_
  refine zr_getR (pc := 13) hV 0 1 dX4_readNewName_13 fX4_15 rfl rfl (zc_k132 zc_s132) (zc_pos zc_s132 rfl) (zc_g132_0 hσ9 zc_s132) (by decide) ?_
  refine zr_callVv (pc := 16) hV [] (st := []) (c_X8_rewind_2 (σ := σ9) hσ9) dX4_readNewName_16 mX4_60 (zc_k1 zc_s1) (zc_pos zc_s1 rfl) (by decide) (Nat.le_of_ble_eq_true rfl) (Nat.le_refl _) (fun σ16 pσ16 => ?_)
  obtain ⟨hσ16, hfσ16, pσ16⟩ := pσ16
  have hFσ16 := zc_Fc hfσ16 rfl hFσ9
  have hOσ16 := zd_Oc hfσ16 rfl hOσ9
  have t13 := zc_g1_2 hσ16 zc_s1
  refine zr_aload_n (pc := 19) hV dX4_readNewName_19 rfl rfl ?_
  refine zr_aload_n (pc := 20) hV dX4_readNewName_20 rfl rfl ?_
  refine zr_getR (pc := 21) hV 0 1 dX4_readNewName_21 fX4_15 rfl rfl (zc_k132 zc_s132) (zc_pos zc_s132 rfl) (zc_g132_0 hσ16 zc_s132) (by decide) ?_
  refine zr_callVi (pc := 24) hV [] (st := [ZR sp]) (c_X8_takeName_2 (σ := σ16) hσ16) dX4_readNewName_24 mX4_63 (zc_k1 zc_s1) (zc_pos zc_s1 rfl) (by decide) (Nat.le_of_ble_eq_true rfl) (Nat.le_refl _) (fun r24 σ24 hr24 pσ24 => ?_)
  obtain ⟨hσ24, hfσ24, pσ24⟩ := pσ24
  have hFσ24 := zc_Fc hfσ24 rfl hFσ16
  have hOσ24 := zd_Oc hfσ24 rfl hOσ16
  have t14 := zc_g1_1 hσ16 zc_s1
  have t15 : σ16 1 1 = σ9 1 1 := hfσ16 _ _ (zc_out_at zc_s1 rfl)
  have t16 : σ9 1 1 = σ 1 1 := hfσ9 _ _ (zc_out_at zc_s1 rfl)
  have t17 := zc_g1_2 hσ16 zc_s1
  have Tσ16 : σ16 2 = σ 2 := funext (fun i => hFσ16 2 i (zc_out_ar zc_s2 rfl))
  have Nσ16 : σ16 1 1 = σ 1 1 := hFσ16 1 1 (zc_out_at zc_s1 rfl)
  rw [Tσ16, Nσ16] at pσ24
  have t18 := zc_g1_2 hσ24 zc_s1
  have t19 := zc_g1_3 hσ24 zc_s1
  rw [show σ16 1 2 = 0 by omega] at pσ24
  refine zr_putI (pc := 27) hV 0 dX4_readNewName_27 fX4_66 rfl rfl rfl (zc_k4 ksp) (zc_pos ksp rfl) (fun σ27 eσ27 => ?_)
  have hσ27 : zc_T σ27 := zc_u4_0 eσ27 hσ24 ksp (by omega)
  have hFσ27 := zc_Fw eσ27 ksp rfl hFσ24
  have hOσ27 := zd_Ow eσ27 (by omega) hOσ24
  refine zr_aload_n (pc := 30) hV dX4_readNewName_30 rfl rfl ?_
  refine zr_getI (pc := 31) hV 0 dX4_readNewName_31 fX4_66 rfl rfl (zc_k4 ksp) (zc_pos ksp rfl) ?_
  have t20 := zc_g4_0 hσ27 ksp
  have t21 : σ27 sp 0 = r24 := by rw [eσ27]; exact zq_up_same _ _ _ _
  refine zr_if_ne (pc := 34) hV 39 dX4_readNewName_34 (by decide) (by omega) (fun c22 => ?_) (fun c22 => ?_)
  · show V 39 [some (ZR 132), some (ZR sp)] [] 284 σ27
    refine zr_aload_n (pc := 39) hV dX4_readNewName_39 rfl rfl ?_
    refine zr_getR (pc := 40) hV 1 3 dX4_readNewName_40 fX4_19 rfl rfl (zc_k132 zc_s132) (zc_pos zc_s132 rfl) (zc_g132_1 hσ27 zc_s132) (by decide) ?_
    refine zr_aload_n (pc := 43) hV dX4_readNewName_43 rfl rfl ?_
    refine zr_getI (pc := 44) hV 0 dX4_readNewName_44 fX4_66 rfl rfl (zc_k4 ksp) (zc_pos ksp rfl) ?_
    have t23 := zc_g4_0 hσ27 ksp
    have t24 : σ27 sp 0 = r24 := by rw [eσ27]; exact zq_up_same _ _ _ _
    have t25 := zc_g4_0 hσ27 ksp
    have t26 : σ27 sp 0 = r24 := by rw [eσ27]; exact zq_up_same _ _ _ _
    refine zr_callVp (pc := 47) hV [ZI (σ27 sp 0)] (st := []) (c_X9_nameNumber_2 (σ := σ27) hσ27 (σ27 sp 0) (by omega)) dX4_readNewName_47 mX4_70 (zc_k3 zc_s3) (zc_pos zc_s3 rfl) (by decide) (Nat.le_of_ble_eq_true rfl) (Nat.le_refl _) (fun r47 hr47 pr47 => ?_)
    have t27 := zc_g3_3 hσ27 zc_s3
    have t28 : σ27 3 3 = σ24 3 3 := by rw [eσ27]; exact zq_up_ne (zc_dk zc_s3 ksp rfl)
    have t29 : σ24 3 3 = σ16 3 3 := hfσ24 _ _ (zc_out_at zc_s3 rfl)
    have t30 : σ16 3 3 = σ9 3 3 := hfσ16 _ _ (zc_out_at zc_s3 rfl)
    have t31 : σ9 3 3 = σ 3 3 := hfσ9 _ _ (zc_out_at zc_s3 rfl)
    have t32 := zc_g4_0 hσ27 ksp
    have t33 : σ27 sp 0 = r24 := by rw [eσ27]; exact zq_up_same _ _ _ _
    have z33 : σ27 3 3 ≤ 20 := (zc_g3_3 hσ27 zc_s3).2
    refine zr_if_lt (pc := 50) hV 62 dX4_readNewName_50 (by decide) (by omega) (fun c34 => ?_) (fun c34 => ?_)
    · show V 62 [some (ZR 132), some (ZR sp)] [] 284 σ27
      refine zr_iconst (pc := 62) hV 1 dX4_readNewName_62 rfl ?_
      have t35 := zc_g3_3 hσ27 zc_s3
      have t36 : σ27 3 3 = σ24 3 3 := by rw [eσ27]; exact zq_up_ne (zc_dk zc_s3 ksp rfl)
      have t37 : σ24 3 3 = σ16 3 3 := hfσ24 _ _ (zc_out_at zc_s3 rfl)
      have t38 : σ16 3 3 = σ9 3 3 := hfσ16 _ _ (zc_out_at zc_s3 rfl)
      have t39 : σ9 3 3 = σ 3 3 := hfσ9 _ _ (zc_out_at zc_s3 rfl)
      have t40 := zc_g4_0 hσ27 ksp
      have t41 : σ27 sp 0 = r24 := by rw [eσ27]; exact zq_up_same _ _ _ _
      have t42 := zc_g1_2 hσ27 zc_s1
      have t43 : σ27 1 2 = σ24 1 2 := by rw [eσ27]; exact zq_up_ne (zc_dk zc_s1 ksp rfl)
      have t44 := zc_g4_1 hσ27 ksp
      have t45 : σ27 sp 1 = σ24 sp 1 := by rw [eσ27]; exact zq_up_ne (by omega)
      have t46 : σ24 sp 1 = σ16 sp 1 := hfσ24 _ _ (zc_out_at ksp rfl)
      have t47 : σ16 sp 1 = σ9 sp 1 := hfσ16 _ _ (zc_out_at ksp rfl)
      have t48 := zc_g4_11 hσ27 ksp
      have t49 : σ27 sp 11 = σ24 sp 11 := by rw [eσ27]; exact zq_up_ne (by omega)
      have t50 : σ24 sp 11 = σ16 sp 11 := hfσ24 _ _ (zc_out_at ksp rfl)
      have t51 : σ16 sp 11 = σ9 sp 11 := hfσ16 _ _ (zc_out_at ksp rfl)
      have t52 := zc_g4_12 hσ27 ksp
      have t53 : σ27 sp 12 = σ24 sp 12 := by rw [eσ27]; exact zq_up_ne (by omega)
      have t54 : σ24 sp 12 = σ16 sp 12 := hfσ24 _ _ (zc_out_at ksp rfl)
      have t55 : σ16 sp 12 = σ9 sp 12 := hfσ16 _ _ (zc_out_at ksp rfl)
      have t56 := zc_g4_13 hσ27 ksp
      have t57 : σ27 sp 13 = σ24 sp 13 := by rw [eσ27]; exact zq_up_ne (by omega)
      have t58 : σ24 sp 13 = σ16 sp 13 := hfσ24 _ _ (zc_out_at ksp rfl)
      have t59 : σ16 sp 13 = σ9 sp 13 := hfσ16 _ _ (zc_out_at ksp rfl)
      have t60 := zc_g4_14 hσ27 ksp
      have t61 : σ27 sp 14 = σ24 sp 14 := by rw [eσ27]; exact zq_up_ne (by omega)
      have t62 : σ24 sp 14 = σ16 sp 14 := hfσ24 _ _ (zc_out_at ksp rfl)
      have t63 : σ16 sp 14 = σ9 sp 14 := hfσ16 _ _ (zc_out_at ksp rfl)
      have t64 := zc_g4_15 hσ27 ksp
      have t65 : σ27 sp 15 = σ24 sp 15 := by rw [eσ27]; exact zq_up_ne (by omega)
      have t66 : σ24 sp 15 = σ16 sp 15 := hfσ24 _ _ (zc_out_at ksp rfl)
      have t67 : σ16 sp 15 = σ9 sp 15 := hfσ16 _ _ (zc_out_at ksp rfl)
      have t68 := zc_g4_16 hσ27 ksp
      have t69 : σ27 sp 16 = σ24 sp 16 := by rw [eσ27]; exact zq_up_ne (by omega)
      have t70 : σ24 sp 16 = σ16 sp 16 := hfσ24 _ _ (zc_out_at ksp rfl)
      have t71 : σ16 sp 16 = σ9 sp 16 := hfσ16 _ _ (zc_out_at ksp rfl)
      have t72 := zc_g4_2 hσ27 ksp
      have t73 : σ27 sp 2 = σ24 sp 2 := by rw [eσ27]; exact zq_up_ne (by omega)
      have t74 : σ24 sp 2 = σ16 sp 2 := hfσ24 _ _ (zc_out_at ksp rfl)
      have t75 : σ16 sp 2 = σ9 sp 2 := hfσ16 _ _ (zc_out_at ksp rfl)
      have t76 := zc_g4_4 hσ27 ksp
      have t77 : σ27 sp 4 = σ24 sp 4 := by rw [eσ27]; exact zq_up_ne (by omega)
      have t78 : σ24 sp 4 = σ16 sp 4 := hfσ24 _ _ (zc_out_at ksp rfl)
      have t79 : σ16 sp 4 = σ9 sp 4 := hfσ16 _ _ (zc_out_at ksp rfl)
      have t80 := zc_g4_5 hσ27 ksp
      have t81 : σ27 sp 5 = σ24 sp 5 := by rw [eσ27]; exact zq_up_ne (by omega)
      have t82 : σ24 sp 5 = σ16 sp 5 := hfσ24 _ _ (zc_out_at ksp rfl)
      have t83 : σ16 sp 5 = σ9 sp 5 := hfσ16 _ _ (zc_out_at ksp rfl)
      have t84 := zc_g4_6 hσ27 ksp
      have t85 : σ27 sp 6 = σ24 sp 6 := by rw [eσ27]; exact zq_up_ne (by omega)
      have t86 : σ24 sp 6 = σ16 sp 6 := hfσ24 _ _ (zc_out_at ksp rfl)
      have t87 : σ16 sp 6 = σ9 sp 6 := hfσ16 _ _ (zc_out_at ksp rfl)
      exact zr_zret (pc := 63) hV dX4_readNewName_63 rfl rfl (by omega) ⟨_, rfl, ⟨by decide, by decide⟩, hσ27, hFσ27, hOσ27, (by omega), (show ((1 : Int) = 1 → σ27 sp 0 = (zt_na (σ 2) (zt_sk (σ 2) (σ 1 1) 0) (zt_nl (σ 2) (σ 1 1) (zt_sk (σ 2) (σ 1 1) 0))) ∧ (zt_nl (σ 2) (σ 1 1) (zt_sk (σ 2) (σ 1 1) 0)) ≠ 0 ∧ ∀ i, 0 ≤ i → i < σ27 3 3 → σ27 (σ27 10 i) 0 ≠ (zt_na (σ 2) (zt_sk (σ 2) (σ 1 1) 0) (zt_nl (σ 2) (σ 1 1) (zt_sk (σ 2) (σ 1 1) 0)))) ∧ ((1 : Int) = 0 → (zt_nl (σ 2) (σ 1 1) (zt_sk (σ 2) (σ 1 1) 0)) = 0 ∨ ∃ i, 0 ≤ i ∧ i < σ27 3 3 ∧ σ27 (σ27 10 i) 0 = (zt_na (σ 2) (zt_sk (σ 2) (σ 1 1) 0) (zt_nl (σ 2) (σ 1 1) (zt_sk (σ 2) (σ 1 1) 0)))) ∧ ∀ j, 0 ≤ j → j ≤ 3 → σ27 (sp + 1) j = 0 from ⟨fun _ => ⟨by omega, by have := zt_na_z (σ 2) (σ 1 1) (zt_sk (σ 2) (σ 1 1) 0); omega, fun i h0 h1 => by have := pr47.2.1 (by omega) i h0 h1; omega⟩, fun h => absurd h (by omega), (fun j h0 h3 => by rw [eσ27, zq_up_ne (by omega), hfσ24 (sp + 1) _ (zc_out_ar (zc_p4_1 ksp) rfl), hfσ16 (sp + 1) _ (zc_out_ar (zc_p4_1 ksp) rfl)]; exact wσ9 j h0 h3)⟩)⟩
    · show V 53 [some (ZR 132), some (ZR sp)] [] 284 σ27
      refine zr_aload_n (pc := 53) hV dX4_readNewName_53 rfl rfl ?_
      refine zr_getR (pc := 54) hV 0 1 dX4_readNewName_54 fX4_15 rfl rfl (zc_k132 zc_s132) (zc_pos zc_s132 rfl) (zc_g132_0 hσ27 zc_s132) (by decide) ?_
      refine zr_callVv (pc := 57) hV [] (st := []) (c_X8_blameWord_2 (σ := σ27) hσ27) dX4_readNewName_57 mX4_74 (zc_k1 zc_s1) (zc_pos zc_s1 rfl) (by decide) (Nat.le_of_ble_eq_true rfl) (Nat.le_refl _) (fun σ57 pσ57 => ?_)
      obtain ⟨hσ57, hfσ57, pσ57⟩ := pσ57
      have hFσ57 := zc_Fc hfσ57 rfl hFσ27
      have hOσ57 := zd_Oc hfσ57 rfl hOσ27
      have t88 := zc_g1_3 hσ27 zc_s1
      have t89 : σ27 1 3 = σ24 1 3 := by rw [eσ27]; exact zq_up_ne (zc_dk zc_s1 ksp rfl)
      have t90 := zc_g1_2 hσ57 zc_s1
      refine zr_iconst (pc := 60) hV 0 dX4_readNewName_60 rfl ?_
      have t91 := zc_g3_3 hσ57 zc_s3
      have t92 : σ57 3 3 = σ27 3 3 := hfσ57 _ _ (zc_out_at zc_s3 rfl)
      have t93 : σ27 3 3 = σ24 3 3 := by rw [eσ27]; exact zq_up_ne (zc_dk zc_s3 ksp rfl)
      have t94 : σ24 3 3 = σ16 3 3 := hfσ24 _ _ (zc_out_at zc_s3 rfl)
      have t95 : σ16 3 3 = σ9 3 3 := hfσ16 _ _ (zc_out_at zc_s3 rfl)
      have t96 : σ9 3 3 = σ 3 3 := hfσ9 _ _ (zc_out_at zc_s3 rfl)
      have t97 := zc_g4_0 hσ57 ksp
      have t98 : σ57 sp 0 = σ27 sp 0 := hfσ57 _ _ (zc_out_at ksp rfl)
      have t99 : σ27 sp 0 = r24 := by rw [eσ27]; exact zq_up_same _ _ _ _
      have t100 := zc_g1_2 hσ57 zc_s1
      have t101 := zc_g4_1 hσ57 ksp
      have t102 : σ57 sp 1 = σ27 sp 1 := hfσ57 _ _ (zc_out_at ksp rfl)
      have t103 : σ27 sp 1 = σ24 sp 1 := by rw [eσ27]; exact zq_up_ne (by omega)
      have t104 : σ24 sp 1 = σ16 sp 1 := hfσ24 _ _ (zc_out_at ksp rfl)
      have t105 : σ16 sp 1 = σ9 sp 1 := hfσ16 _ _ (zc_out_at ksp rfl)
      have t106 := zc_g4_11 hσ57 ksp
      have t107 : σ57 sp 11 = σ27 sp 11 := hfσ57 _ _ (zc_out_at ksp rfl)
      have t108 : σ27 sp 11 = σ24 sp 11 := by rw [eσ27]; exact zq_up_ne (by omega)
      have t109 : σ24 sp 11 = σ16 sp 11 := hfσ24 _ _ (zc_out_at ksp rfl)
      have t110 : σ16 sp 11 = σ9 sp 11 := hfσ16 _ _ (zc_out_at ksp rfl)
      have t111 := zc_g4_12 hσ57 ksp
      have t112 : σ57 sp 12 = σ27 sp 12 := hfσ57 _ _ (zc_out_at ksp rfl)
      have t113 : σ27 sp 12 = σ24 sp 12 := by rw [eσ27]; exact zq_up_ne (by omega)
      have t114 : σ24 sp 12 = σ16 sp 12 := hfσ24 _ _ (zc_out_at ksp rfl)
      have t115 : σ16 sp 12 = σ9 sp 12 := hfσ16 _ _ (zc_out_at ksp rfl)
      have t116 := zc_g4_13 hσ57 ksp
      have t117 : σ57 sp 13 = σ27 sp 13 := hfσ57 _ _ (zc_out_at ksp rfl)
      have t118 : σ27 sp 13 = σ24 sp 13 := by rw [eσ27]; exact zq_up_ne (by omega)
      have t119 : σ24 sp 13 = σ16 sp 13 := hfσ24 _ _ (zc_out_at ksp rfl)
      have t120 : σ16 sp 13 = σ9 sp 13 := hfσ16 _ _ (zc_out_at ksp rfl)
      have t121 := zc_g4_14 hσ57 ksp
      have t122 : σ57 sp 14 = σ27 sp 14 := hfσ57 _ _ (zc_out_at ksp rfl)
      have t123 : σ27 sp 14 = σ24 sp 14 := by rw [eσ27]; exact zq_up_ne (by omega)
      have t124 : σ24 sp 14 = σ16 sp 14 := hfσ24 _ _ (zc_out_at ksp rfl)
      have t125 : σ16 sp 14 = σ9 sp 14 := hfσ16 _ _ (zc_out_at ksp rfl)
      have t126 := zc_g4_15 hσ57 ksp
      have t127 : σ57 sp 15 = σ27 sp 15 := hfσ57 _ _ (zc_out_at ksp rfl)
      have t128 : σ27 sp 15 = σ24 sp 15 := by rw [eσ27]; exact zq_up_ne (by omega)
      have t129 : σ24 sp 15 = σ16 sp 15 := hfσ24 _ _ (zc_out_at ksp rfl)
      have t130 : σ16 sp 15 = σ9 sp 15 := hfσ16 _ _ (zc_out_at ksp rfl)
      have t131 := zc_g4_16 hσ57 ksp
      have t132 : σ57 sp 16 = σ27 sp 16 := hfσ57 _ _ (zc_out_at ksp rfl)
      have t133 : σ27 sp 16 = σ24 sp 16 := by rw [eσ27]; exact zq_up_ne (by omega)
      have t134 : σ24 sp 16 = σ16 sp 16 := hfσ24 _ _ (zc_out_at ksp rfl)
      have t135 : σ16 sp 16 = σ9 sp 16 := hfσ16 _ _ (zc_out_at ksp rfl)
      have t136 := zc_g4_2 hσ57 ksp
      have t137 : σ57 sp 2 = σ27 sp 2 := hfσ57 _ _ (zc_out_at ksp rfl)
      have t138 : σ27 sp 2 = σ24 sp 2 := by rw [eσ27]; exact zq_up_ne (by omega)
      have t139 : σ24 sp 2 = σ16 sp 2 := hfσ24 _ _ (zc_out_at ksp rfl)
      have t140 : σ16 sp 2 = σ9 sp 2 := hfσ16 _ _ (zc_out_at ksp rfl)
      have t141 := zc_g4_4 hσ57 ksp
      have t142 : σ57 sp 4 = σ27 sp 4 := hfσ57 _ _ (zc_out_at ksp rfl)
      have t143 : σ27 sp 4 = σ24 sp 4 := by rw [eσ27]; exact zq_up_ne (by omega)
      have t144 : σ24 sp 4 = σ16 sp 4 := hfσ24 _ _ (zc_out_at ksp rfl)
      have t145 : σ16 sp 4 = σ9 sp 4 := hfσ16 _ _ (zc_out_at ksp rfl)
      have t146 := zc_g4_5 hσ57 ksp
      have t147 : σ57 sp 5 = σ27 sp 5 := hfσ57 _ _ (zc_out_at ksp rfl)
      have t148 : σ27 sp 5 = σ24 sp 5 := by rw [eσ27]; exact zq_up_ne (by omega)
      have t149 : σ24 sp 5 = σ16 sp 5 := hfσ24 _ _ (zc_out_at ksp rfl)
      have t150 : σ16 sp 5 = σ9 sp 5 := hfσ16 _ _ (zc_out_at ksp rfl)
      have t151 := zc_g4_6 hσ57 ksp
      have t152 : σ57 sp 6 = σ27 sp 6 := hfσ57 _ _ (zc_out_at ksp rfl)
      have t153 : σ27 sp 6 = σ24 sp 6 := by rw [eσ27]; exact zq_up_ne (by omega)
      have t154 : σ24 sp 6 = σ16 sp 6 := hfσ24 _ _ (zc_out_at ksp rfl)
      have t155 : σ16 sp 6 = σ9 sp 6 := hfσ16 _ _ (zc_out_at ksp rfl)
      exact zr_zret (pc := 61) hV dX4_readNewName_61 rfl rfl (by omega) ⟨_, rfl, ⟨by decide, by decide⟩, hσ57, hFσ57, hOσ57, (by omega), (show ((0 : Int) = 1 → σ57 sp 0 = (zt_na (σ 2) (zt_sk (σ 2) (σ 1 1) 0) (zt_nl (σ 2) (σ 1 1) (zt_sk (σ 2) (σ 1 1) 0))) ∧ (zt_nl (σ 2) (σ 1 1) (zt_sk (σ 2) (σ 1 1) 0)) ≠ 0 ∧ ∀ i, 0 ≤ i → i < σ57 3 3 → σ57 (σ57 10 i) 0 ≠ (zt_na (σ 2) (zt_sk (σ 2) (σ 1 1) 0) (zt_nl (σ 2) (σ 1 1) (zt_sk (σ 2) (σ 1 1) 0)))) ∧ ((0 : Int) = 0 → (zt_nl (σ 2) (σ 1 1) (zt_sk (σ 2) (σ 1 1) 0)) = 0 ∨ ∃ i, 0 ≤ i ∧ i < σ57 3 3 ∧ σ57 (σ57 10 i) 0 = (zt_na (σ 2) (zt_sk (σ 2) (σ 1 1) 0) (zt_nl (σ 2) (σ 1 1) (zt_sk (σ 2) (σ 1 1) 0)))) ∧ ∀ j, 0 ≤ j → j ≤ 3 → σ57 (sp + 1) j = 0 from ⟨fun h => absurd h (by omega), fun _ => Or.inr ⟨r47, by omega, by rw [hfσ57 3 3 (zc_out_at zc_s3 rfl)]; omega, by rw [hfσ57 10 _ (zc_out_ar zc_s10 rfl), hfσ57 (σ27 10 r47) 0 (zc_out_at (zc_ga10 hσ27 zc_s10 r47 (by omega) (by omega)) rfl)]; have := pr47.2.2 (by omega); omega⟩, (fun j h0 h3 => by rw [hfσ57 (sp + 1) _ (zc_out_ar (zc_p4_1 ksp) rfl), eσ27, zq_up_ne (by omega), hfσ24 (sp + 1) _ (zc_out_ar (zc_p4_1 ksp) rfl), hfσ16 (sp + 1) _ (zc_out_ar (zc_p4_1 ksp) rfl)]; exact wσ9 j h0 h3)⟩)⟩
  · show V 37 [some (ZR 132), some (ZR sp)] [] 284 σ27
    have zz := zt_na_z (σ 2) (σ 1 1) (zt_sk (σ 2) (σ 1 1) 0)
    refine zr_iconst (pc := 37) hV 0 dX4_readNewName_37 rfl ?_
    have t156 := zc_g3_3 hσ27 zc_s3
    have t157 : σ27 3 3 = σ24 3 3 := by rw [eσ27]; exact zq_up_ne (zc_dk zc_s3 ksp rfl)
    have t158 : σ24 3 3 = σ16 3 3 := hfσ24 _ _ (zc_out_at zc_s3 rfl)
    have t159 : σ16 3 3 = σ9 3 3 := hfσ16 _ _ (zc_out_at zc_s3 rfl)
    have t160 : σ9 3 3 = σ 3 3 := hfσ9 _ _ (zc_out_at zc_s3 rfl)
    have t161 := zc_g4_0 hσ27 ksp
    have t162 : σ27 sp 0 = r24 := by rw [eσ27]; exact zq_up_same _ _ _ _
    have t163 := zc_g1_2 hσ27 zc_s1
    have t164 : σ27 1 2 = σ24 1 2 := by rw [eσ27]; exact zq_up_ne (zc_dk zc_s1 ksp rfl)
    have t165 := zc_g4_1 hσ27 ksp
    have t166 : σ27 sp 1 = σ24 sp 1 := by rw [eσ27]; exact zq_up_ne (by omega)
    have t167 : σ24 sp 1 = σ16 sp 1 := hfσ24 _ _ (zc_out_at ksp rfl)
    have t168 : σ16 sp 1 = σ9 sp 1 := hfσ16 _ _ (zc_out_at ksp rfl)
    have t169 := zc_g4_11 hσ27 ksp
    have t170 : σ27 sp 11 = σ24 sp 11 := by rw [eσ27]; exact zq_up_ne (by omega)
    have t171 : σ24 sp 11 = σ16 sp 11 := hfσ24 _ _ (zc_out_at ksp rfl)
    have t172 : σ16 sp 11 = σ9 sp 11 := hfσ16 _ _ (zc_out_at ksp rfl)
    have t173 := zc_g4_12 hσ27 ksp
    have t174 : σ27 sp 12 = σ24 sp 12 := by rw [eσ27]; exact zq_up_ne (by omega)
    have t175 : σ24 sp 12 = σ16 sp 12 := hfσ24 _ _ (zc_out_at ksp rfl)
    have t176 : σ16 sp 12 = σ9 sp 12 := hfσ16 _ _ (zc_out_at ksp rfl)
    have t177 := zc_g4_13 hσ27 ksp
    have t178 : σ27 sp 13 = σ24 sp 13 := by rw [eσ27]; exact zq_up_ne (by omega)
    have t179 : σ24 sp 13 = σ16 sp 13 := hfσ24 _ _ (zc_out_at ksp rfl)
    have t180 : σ16 sp 13 = σ9 sp 13 := hfσ16 _ _ (zc_out_at ksp rfl)
    have t181 := zc_g4_14 hσ27 ksp
    have t182 : σ27 sp 14 = σ24 sp 14 := by rw [eσ27]; exact zq_up_ne (by omega)
    have t183 : σ24 sp 14 = σ16 sp 14 := hfσ24 _ _ (zc_out_at ksp rfl)
    have t184 : σ16 sp 14 = σ9 sp 14 := hfσ16 _ _ (zc_out_at ksp rfl)
    have t185 := zc_g4_15 hσ27 ksp
    have t186 : σ27 sp 15 = σ24 sp 15 := by rw [eσ27]; exact zq_up_ne (by omega)
    have t187 : σ24 sp 15 = σ16 sp 15 := hfσ24 _ _ (zc_out_at ksp rfl)
    have t188 : σ16 sp 15 = σ9 sp 15 := hfσ16 _ _ (zc_out_at ksp rfl)
    have t189 := zc_g4_16 hσ27 ksp
    have t190 : σ27 sp 16 = σ24 sp 16 := by rw [eσ27]; exact zq_up_ne (by omega)
    have t191 : σ24 sp 16 = σ16 sp 16 := hfσ24 _ _ (zc_out_at ksp rfl)
    have t192 : σ16 sp 16 = σ9 sp 16 := hfσ16 _ _ (zc_out_at ksp rfl)
    have t193 := zc_g4_2 hσ27 ksp
    have t194 : σ27 sp 2 = σ24 sp 2 := by rw [eσ27]; exact zq_up_ne (by omega)
    have t195 : σ24 sp 2 = σ16 sp 2 := hfσ24 _ _ (zc_out_at ksp rfl)
    have t196 : σ16 sp 2 = σ9 sp 2 := hfσ16 _ _ (zc_out_at ksp rfl)
    have t197 := zc_g4_4 hσ27 ksp
    have t198 : σ27 sp 4 = σ24 sp 4 := by rw [eσ27]; exact zq_up_ne (by omega)
    have t199 : σ24 sp 4 = σ16 sp 4 := hfσ24 _ _ (zc_out_at ksp rfl)
    have t200 : σ16 sp 4 = σ9 sp 4 := hfσ16 _ _ (zc_out_at ksp rfl)
    have t201 := zc_g4_5 hσ27 ksp
    have t202 : σ27 sp 5 = σ24 sp 5 := by rw [eσ27]; exact zq_up_ne (by omega)
    have t203 : σ24 sp 5 = σ16 sp 5 := hfσ24 _ _ (zc_out_at ksp rfl)
    have t204 : σ16 sp 5 = σ9 sp 5 := hfσ16 _ _ (zc_out_at ksp rfl)
    have t205 := zc_g4_6 hσ27 ksp
    have t206 : σ27 sp 6 = σ24 sp 6 := by rw [eσ27]; exact zq_up_ne (by omega)
    have t207 : σ24 sp 6 = σ16 sp 6 := hfσ24 _ _ (zc_out_at ksp rfl)
    have t208 : σ16 sp 6 = σ9 sp 6 := hfσ16 _ _ (zc_out_at ksp rfl)
    exact zr_zret (pc := 38) hV dX4_readNewName_38 rfl rfl (by omega) ⟨_, rfl, ⟨by decide, by decide⟩, hσ27, hFσ27, hOσ27, (by omega), (show ((0 : Int) = 1 → σ27 sp 0 = (zt_na (σ 2) (zt_sk (σ 2) (σ 1 1) 0) (zt_nl (σ 2) (σ 1 1) (zt_sk (σ 2) (σ 1 1) 0))) ∧ (zt_nl (σ 2) (σ 1 1) (zt_sk (σ 2) (σ 1 1) 0)) ≠ 0 ∧ ∀ i, 0 ≤ i → i < σ27 3 3 → σ27 (σ27 10 i) 0 ≠ (zt_na (σ 2) (zt_sk (σ 2) (σ 1 1) 0) (zt_nl (σ 2) (σ 1 1) (zt_sk (σ 2) (σ 1 1) 0)))) ∧ ((0 : Int) = 0 → (zt_nl (σ 2) (σ 1 1) (zt_sk (σ 2) (σ 1 1) 0)) = 0 ∨ ∃ i, 0 ≤ i ∧ i < σ27 3 3 ∧ σ27 (σ27 10 i) 0 = (zt_na (σ 2) (zt_sk (σ 2) (σ 1 1) 0) (zt_nl (σ 2) (σ 1 1) (zt_sk (σ 2) (σ 1 1) 0)))) ∧ ∀ j, 0 ≤ j → j ≤ 3 → σ27 (sp + 1) j = 0 from ⟨fun h => absurd h (by omega), fun _ => Or.inl (by have := zt_na_z (σ 2) (σ 1 1) (zt_sk (σ 2) (σ 1 1) 0); omega), (fun j h0 h3 => by rw [eσ27, zq_up_ne (by omega), hfσ24 (sp + 1) _ (zc_out_ar (zc_p4_1 ksp) rfl), hfσ16 (sp + 1) _ (zc_out_ar (zc_p4_1 ksp) rfl)]; exact wσ9 j h0 h3)⟩)⟩
set_option maxHeartbeats 800000 in
theorem c_X4_readNameAlone_2 {σ : zq_S} (hσ : zc_T σ) (sp : Int) (esp : σ 3 5 = sp) (ksp : zc_kd sp = 4)  : zq_C zc_w yX4_readNameAlone cX4_readNameAlone 1 (some .boolean) 3 64 284 284 [ZR 132] σ (zq_pi (fun r τ => zc_T τ ∧ zc_Fr [(1, 2), (1, 3), (4, 0), (4, 1), (4, 2), (4, 4), (4, 5), (4, 6), (4, 11), (4, 12), (4, 13), (4, 14), (4, 15), (4, 16), (5, -1)] σ τ ∧ zd_Own sp σ τ ∧ ((0 ≤ r ∧ r ≤ 1) ∧ τ sp 1 = 0 ∧ τ sp 2 = 0 ∧ τ sp 4 = 0 ∧ τ sp 5 = 0 ∧ τ sp 6 = 0 ∧ τ sp 11 = 0 ∧ τ sp 12 = 0 ∧ τ sp 13 = 0 ∧ τ sp 14 = 0 ∧ τ sp 15 = -1 ∧ τ sp 16 = -1) ∧ zq_hid ((r = 1 → τ sp 0 = (zt_na (σ 2) (zt_sk (σ 2) (σ 1 1) 0) (zt_nl (σ 2) (σ 1 1) (zt_sk (σ 2) (σ 1 1) 0))) ∧ (zt_nl (σ 2) (σ 1 1) (zt_sk (σ 2) (σ 1 1) 0)) ≠ 0 ∧ (∀ i, 0 ≤ i → i < τ 3 3 → τ (τ 10 i) 0 ≠ (zt_na (σ 2) (zt_sk (σ 2) (σ 1 1) 0) (zt_nl (σ 2) (σ 1 1) (zt_sk (σ 2) (σ 1 1) 0)))) ∧ (zt_nx (σ 2) (σ 1 1) ((zt_sk (σ 2) (σ 1 1) 0) + (zt_nl (σ 2) (σ 1 1) (zt_sk (σ 2) (σ 1 1) 0)))) = -1) ∧ (r = 0 → (((zt_nl (σ 2) (σ 1 1) (zt_sk (σ 2) (σ 1 1) 0)) = 0 ∨ ∃ i, 0 ≤ i ∧ i < τ 3 3 ∧ τ (τ 10 i) 0 = (zt_na (σ 2) (zt_sk (σ 2) (σ 1 1) 0) (zt_nl (σ 2) (σ 1 1) (zt_sk (σ 2) (σ 1 1) 0)))) ∧ τ 1 2 = (zt_sk (σ 2) (σ 1 1) 0)) ∨ ((zt_nl (σ 2) (σ 1 1) (zt_sk (σ 2) (σ 1 1) 0)) ≠ 0 ∧ (∀ i, 0 ≤ i → i < τ 3 3 → τ (τ 10 i) 0 ≠ (zt_na (σ 2) (zt_sk (σ 2) (σ 1 1) 0) (zt_nl (σ 2) (σ 1 1) (zt_sk (σ 2) (σ 1 1) 0)))) ∧ (zt_nx (σ 2) (σ 1 1) ((zt_sk (σ 2) (σ 1 1) 0) + (zt_nl (σ 2) (σ 1 1) (zt_sk (σ 2) (σ 1 1) 0)))) ≠ -1 ∧ τ 1 2 = zt_sk (σ 2) (σ 1 1) ((zt_sk (σ 2) (σ 1 1) 0) + (zt_nl (σ 2) (σ 1 1) (zt_sk (σ 2) (σ 1 1) 0))))) ∧ ∀ j, 0 ≤ j → j ≤ 3 → τ (sp + 1) j = 0))) := by
  refine zq_C_of (by decide) (Nat.le_refl _) (Nat.le_of_ble_eq_true rfl) [some (ZR 132)] rfl (fun V hV => ?_)
  have hFσ := zc_Fr_rf [(1, 2), (1, 3), (4, 0), (4, 1), (4, 2), (4, 4), (4, 5), (4, 6), (4, 11), (4, 12), (4, 13), (4, 14), (4, 15), (4, 16), (5, -1)] σ
  have hOσ := zd_Own_rf sp σ
  have posp := zc_pos ksp rfl
  show V 0 [some (ZR 132)] [] 284 σ
  refine zr_aload_n (pc := 0) hV dX4_readNameAlone_0 rfl rfl ?_
  refine zr_callVi (pc := 1) hV [] (st := []) (c_X4_readNewName_2 (σ := σ) hσ sp (by omega) ksp) dX4_readNameAlone_1 mX4_23 (zc_k132 zc_s132) (zc_pos zc_s132 rfl) (by decide) (Nat.le_of_ble_eq_true rfl) (Nat.le_refl _) (fun r1 σ1 hr1 pσ1 => ?_)
  obtain ⟨hσ1, hfσ1, hoσ1, pσ1, wσ1⟩ := pσ1
  have hFσ1 := zc_Fc hfσ1 rfl hFσ
  have hOσ1 := zd_Oo hoσ1 hOσ
  have t1 := zc_g1_1 hσ zc_s1
  have t2 := zc_g1_2 hσ1 zc_s1
  have t3 := zc_g4_1 hσ1 ksp
  have t4 := zc_g4_11 hσ1 ksp
  have t5 := zc_g4_12 hσ1 ksp
  have t6 := zc_g4_13 hσ1 ksp
  have t7 := zc_g4_14 hσ1 ksp
  have t8 := zc_g4_15 hσ1 ksp
  have t9 := zc_g4_16 hσ1 ksp
  have t10 := zc_g4_2 hσ1 ksp
  have t11 := zc_g4_4 hσ1 ksp
  have t12 := zc_g4_5 hσ1 ksp
  have t13 := zc_g4_6 hσ1 ksp
  refine zr_if_eq (pc := 4) hV 22 dX4_readNameAlone_4 (by decide) (by omega) (fun c14 => ?_) (fun c14 => ?_)
  · show V 22 [some (ZR 132)] [] 284 σ1
    refine zr_iconst (pc := 22) hV 0 dX4_readNameAlone_22 rfl ?_
    show V 23 [some (ZR 132)] [ZI 0] 284 σ1
    have t15 := zc_g1_2 hσ1 zc_s1
    have t16 := zc_g3_3 hσ1 zc_s3
    have t17 : σ1 3 3 = σ 3 3 := hfσ1 _ _ (zc_out_at zc_s3 rfl)
    have t18 := zc_g4_0 hσ1 ksp
    have t19 := zc_g4_1 hσ1 ksp
    have t20 := zc_g4_11 hσ1 ksp
    have t21 := zc_g4_12 hσ1 ksp
    have t22 := zc_g4_13 hσ1 ksp
    have t23 := zc_g4_14 hσ1 ksp
    have t24 := zc_g4_15 hσ1 ksp
    have t25 := zc_g4_16 hσ1 ksp
    have t26 := zc_g4_2 hσ1 ksp
    have t27 := zc_g4_4 hσ1 ksp
    have t28 := zc_g4_5 hσ1 ksp
    have t29 := zc_g4_6 hσ1 ksp
    exact zr_zret (pc := 23) hV dX4_readNameAlone_23 rfl rfl (by omega) ⟨_, rfl, ⟨by decide, by decide⟩, hσ1, hFσ1, hOσ1, (by omega), (show ((0 : Int) = 1 → σ1 sp 0 = (zt_na (σ 2) (zt_sk (σ 2) (σ 1 1) 0) (zt_nl (σ 2) (σ 1 1) (zt_sk (σ 2) (σ 1 1) 0))) ∧ (zt_nl (σ 2) (σ 1 1) (zt_sk (σ 2) (σ 1 1) 0)) ≠ 0 ∧ (∀ i, 0 ≤ i → i < σ1 3 3 → σ1 (σ1 10 i) 0 ≠ (zt_na (σ 2) (zt_sk (σ 2) (σ 1 1) 0) (zt_nl (σ 2) (σ 1 1) (zt_sk (σ 2) (σ 1 1) 0)))) ∧ (zt_nx (σ 2) (σ 1 1) ((zt_sk (σ 2) (σ 1 1) 0) + (zt_nl (σ 2) (σ 1 1) (zt_sk (σ 2) (σ 1 1) 0)))) = -1) ∧ ((0 : Int) = 0 → (((zt_nl (σ 2) (σ 1 1) (zt_sk (σ 2) (σ 1 1) 0)) = 0 ∨ ∃ i, 0 ≤ i ∧ i < σ1 3 3 ∧ σ1 (σ1 10 i) 0 = (zt_na (σ 2) (zt_sk (σ 2) (σ 1 1) 0) (zt_nl (σ 2) (σ 1 1) (zt_sk (σ 2) (σ 1 1) 0)))) ∧ σ1 1 2 = (zt_sk (σ 2) (σ 1 1) 0)) ∨ ((zt_nl (σ 2) (σ 1 1) (zt_sk (σ 2) (σ 1 1) 0)) ≠ 0 ∧ (∀ i, 0 ≤ i → i < σ1 3 3 → σ1 (σ1 10 i) 0 ≠ (zt_na (σ 2) (zt_sk (σ 2) (σ 1 1) 0) (zt_nl (σ 2) (σ 1 1) (zt_sk (σ 2) (σ 1 1) 0)))) ∧ (zt_nx (σ 2) (σ 1 1) ((zt_sk (σ 2) (σ 1 1) 0) + (zt_nl (σ 2) (σ 1 1) (zt_sk (σ 2) (σ 1 1) 0)))) ≠ -1 ∧ σ1 1 2 = zt_sk (σ 2) (σ 1 1) ((zt_sk (σ 2) (σ 1 1) 0) + (zt_nl (σ 2) (σ 1 1) (zt_sk (σ 2) (σ 1 1) 0))))) ∧ ∀ j, 0 ≤ j → j ≤ 3 → σ1 (sp + 1) j = 0 from ⟨fun h => absurd h (by omega), fun _ => Or.inl ⟨wσ1.2.1 (by omega), pσ1.2.2.1 (by omega)⟩, wσ1.2.2⟩)⟩
  · show V 7 [some (ZR 132)] [] 284 σ1
    refine zr_aload_n (pc := 7) hV dX4_readNameAlone_7 rfl rfl ?_
    refine zr_getR (pc := 8) hV 0 1 dX4_readNameAlone_8 fX4_15 rfl rfl (zc_k132 zc_s132) (zc_pos zc_s132 rfl) (zc_g132_0 hσ1 zc_s132) (by decide) ?_
    refine zr_callVi (pc := 11) hV [] (st := []) (c_X8_next_2 (σ := σ1) hσ1) dX4_readNameAlone_11 mX4_45 (zc_k1 zc_s1) (zc_pos zc_s1 rfl) (by decide) (Nat.le_of_ble_eq_true rfl) (Nat.le_refl _) (fun r11 σ11 hr11 pσ11 => ?_)
    obtain ⟨hσ11, hfσ11, pσ11⟩ := pσ11
    have hFσ11 := zc_Fc hfσ11 rfl hFσ1
    have hOσ11 := zd_Oc hfσ11 rfl hOσ1
    have t30 := zc_g1_1 hσ1 zc_s1
    have t31 : σ1 1 1 = σ 1 1 := hfσ1 _ _ (zc_out_at zc_s1 rfl)
    have t32 := zc_g1_2 hσ1 zc_s1
    have Tσ1 : σ1 2 = σ 2 := funext (fun i => hFσ1 2 i (zc_out_ar zc_s2 rfl))
    have Nσ1 : σ1 1 1 = σ 1 1 := hFσ1 1 1 (zc_out_at zc_s1 rfl)
    rw [Tσ1, Nσ1] at pσ11
    have t33 := zc_g1_2 hσ11 zc_s1
    rw [show σ1 1 2 = (zt_sk (σ 2) (σ 1 1) 0) + (zt_nl (σ 2) (σ 1 1) (zt_sk (σ 2) (σ 1 1) 0)) by omega] at pσ11
    refine zr_iconst (pc := 14) hV (-1) dX4_readNameAlone_14 rfl ?_
    refine zr_icmp_ne (pc := 15) hV 22 dX4_readNameAlone_15 (by decide) (by omega) ⟨by decide, by decide⟩ (fun c34 => ?_) (fun c34 => ?_)
    · show V 22 [some (ZR 132)] [] 284 σ11
      refine zr_iconst (pc := 22) hV 0 dX4_readNameAlone_22 rfl ?_
      show V 23 [some (ZR 132)] [ZI 0] 284 σ11
      have t35 := zc_g1_2 hσ11 zc_s1
      have t36 := zc_g3_3 hσ11 zc_s3
      have t37 : σ11 3 3 = σ1 3 3 := hfσ11 _ _ (zc_out_at zc_s3 rfl)
      have t38 : σ1 3 3 = σ 3 3 := hfσ1 _ _ (zc_out_at zc_s3 rfl)
      have t39 := zc_g4_0 hσ11 ksp
      have t40 : σ11 sp 0 = σ1 sp 0 := hfσ11 _ _ (zc_out_at ksp rfl)
      have t41 := zc_g4_1 hσ11 ksp
      have t42 : σ11 sp 1 = σ1 sp 1 := hfσ11 _ _ (zc_out_at ksp rfl)
      have t43 := zc_g4_11 hσ11 ksp
      have t44 : σ11 sp 11 = σ1 sp 11 := hfσ11 _ _ (zc_out_at ksp rfl)
      have t45 := zc_g4_12 hσ11 ksp
      have t46 : σ11 sp 12 = σ1 sp 12 := hfσ11 _ _ (zc_out_at ksp rfl)
      have t47 := zc_g4_13 hσ11 ksp
      have t48 : σ11 sp 13 = σ1 sp 13 := hfσ11 _ _ (zc_out_at ksp rfl)
      have t49 := zc_g4_14 hσ11 ksp
      have t50 : σ11 sp 14 = σ1 sp 14 := hfσ11 _ _ (zc_out_at ksp rfl)
      have t51 := zc_g4_15 hσ11 ksp
      have t52 : σ11 sp 15 = σ1 sp 15 := hfσ11 _ _ (zc_out_at ksp rfl)
      have t53 := zc_g4_16 hσ11 ksp
      have t54 : σ11 sp 16 = σ1 sp 16 := hfσ11 _ _ (zc_out_at ksp rfl)
      have t55 := zc_g4_2 hσ11 ksp
      have t56 : σ11 sp 2 = σ1 sp 2 := hfσ11 _ _ (zc_out_at ksp rfl)
      have t57 := zc_g4_4 hσ11 ksp
      have t58 : σ11 sp 4 = σ1 sp 4 := hfσ11 _ _ (zc_out_at ksp rfl)
      have t59 := zc_g4_5 hσ11 ksp
      have t60 : σ11 sp 5 = σ1 sp 5 := hfσ11 _ _ (zc_out_at ksp rfl)
      have t61 := zc_g4_6 hσ11 ksp
      have t62 : σ11 sp 6 = σ1 sp 6 := hfσ11 _ _ (zc_out_at ksp rfl)
      exact zr_zret (pc := 23) hV dX4_readNameAlone_23 rfl rfl (by omega) ⟨_, rfl, ⟨by decide, by decide⟩, hσ11, hFσ11, hOσ11, (by omega), (show ((0 : Int) = 1 → σ11 sp 0 = (zt_na (σ 2) (zt_sk (σ 2) (σ 1 1) 0) (zt_nl (σ 2) (σ 1 1) (zt_sk (σ 2) (σ 1 1) 0))) ∧ (zt_nl (σ 2) (σ 1 1) (zt_sk (σ 2) (σ 1 1) 0)) ≠ 0 ∧ (∀ i, 0 ≤ i → i < σ11 3 3 → σ11 (σ11 10 i) 0 ≠ (zt_na (σ 2) (zt_sk (σ 2) (σ 1 1) 0) (zt_nl (σ 2) (σ 1 1) (zt_sk (σ 2) (σ 1 1) 0)))) ∧ (zt_nx (σ 2) (σ 1 1) ((zt_sk (σ 2) (σ 1 1) 0) + (zt_nl (σ 2) (σ 1 1) (zt_sk (σ 2) (σ 1 1) 0)))) = -1) ∧ ((0 : Int) = 0 → (((zt_nl (σ 2) (σ 1 1) (zt_sk (σ 2) (σ 1 1) 0)) = 0 ∨ ∃ i, 0 ≤ i ∧ i < σ11 3 3 ∧ σ11 (σ11 10 i) 0 = (zt_na (σ 2) (zt_sk (σ 2) (σ 1 1) 0) (zt_nl (σ 2) (σ 1 1) (zt_sk (σ 2) (σ 1 1) 0)))) ∧ σ11 1 2 = (zt_sk (σ 2) (σ 1 1) 0)) ∨ ((zt_nl (σ 2) (σ 1 1) (zt_sk (σ 2) (σ 1 1) 0)) ≠ 0 ∧ (∀ i, 0 ≤ i → i < σ11 3 3 → σ11 (σ11 10 i) 0 ≠ (zt_na (σ 2) (zt_sk (σ 2) (σ 1 1) 0) (zt_nl (σ 2) (σ 1 1) (zt_sk (σ 2) (σ 1 1) 0)))) ∧ (zt_nx (σ 2) (σ 1 1) ((zt_sk (σ 2) (σ 1 1) 0) + (zt_nl (σ 2) (σ 1 1) (zt_sk (σ 2) (σ 1 1) 0)))) ≠ -1 ∧ σ11 1 2 = zt_sk (σ 2) (σ 1 1) ((zt_sk (σ 2) (σ 1 1) 0) + (zt_nl (σ 2) (σ 1 1) (zt_sk (σ 2) (σ 1 1) 0))))) ∧ ∀ j, 0 ≤ j → j ≤ 3 → σ11 (sp + 1) j = 0 from ⟨fun h => absurd h (by omega), fun _ => Or.inr ⟨(wσ1.1 (by omega)).2.1, (fun i h0 h1 => by rw [hfσ11 3 3 (zc_out_at zc_s3 rfl)] at h1; have z3 := zc_g3_3 hσ1 zc_s3; rw [hfσ11 10 _ (zc_out_ar zc_s10 rfl), hfσ11 (σ1 10 i) 0 (zc_out_at (zc_ga10 hσ1 zc_s10 i (by omega) (by omega)) rfl)]; exact (wσ1.1 (by omega)).2.2 i h0 h1), by omega, by omega⟩, (fun j h0 h3 => by rw [hfσ11 (sp + 1) _ (zc_out_ar (zc_p4_1 ksp) rfl)]; exact wσ1.2.2 j h0 h3)⟩)⟩
    · show V 18 [some (ZR 132)] [] 284 σ11
      refine zr_iconst (pc := 18) hV 1 dX4_readNameAlone_18 rfl ?_
      refine zr_goto (pc := 19) hV 23 dX4_readNameAlone_19 (by decide) ?_
      show V 23 [some (ZR 132)] [ZI 1] 284 σ11
      have t63 := zc_g1_2 hσ11 zc_s1
      have t64 := zc_g3_3 hσ11 zc_s3
      have t65 : σ11 3 3 = σ1 3 3 := hfσ11 _ _ (zc_out_at zc_s3 rfl)
      have t66 : σ1 3 3 = σ 3 3 := hfσ1 _ _ (zc_out_at zc_s3 rfl)
      have t67 := zc_g4_0 hσ11 ksp
      have t68 : σ11 sp 0 = σ1 sp 0 := hfσ11 _ _ (zc_out_at ksp rfl)
      have t69 := zc_g4_1 hσ11 ksp
      have t70 : σ11 sp 1 = σ1 sp 1 := hfσ11 _ _ (zc_out_at ksp rfl)
      have t71 := zc_g4_11 hσ11 ksp
      have t72 : σ11 sp 11 = σ1 sp 11 := hfσ11 _ _ (zc_out_at ksp rfl)
      have t73 := zc_g4_12 hσ11 ksp
      have t74 : σ11 sp 12 = σ1 sp 12 := hfσ11 _ _ (zc_out_at ksp rfl)
      have t75 := zc_g4_13 hσ11 ksp
      have t76 : σ11 sp 13 = σ1 sp 13 := hfσ11 _ _ (zc_out_at ksp rfl)
      have t77 := zc_g4_14 hσ11 ksp
      have t78 : σ11 sp 14 = σ1 sp 14 := hfσ11 _ _ (zc_out_at ksp rfl)
      have t79 := zc_g4_15 hσ11 ksp
      have t80 : σ11 sp 15 = σ1 sp 15 := hfσ11 _ _ (zc_out_at ksp rfl)
      have t81 := zc_g4_16 hσ11 ksp
      have t82 : σ11 sp 16 = σ1 sp 16 := hfσ11 _ _ (zc_out_at ksp rfl)
      have t83 := zc_g4_2 hσ11 ksp
      have t84 : σ11 sp 2 = σ1 sp 2 := hfσ11 _ _ (zc_out_at ksp rfl)
      have t85 := zc_g4_4 hσ11 ksp
      have t86 : σ11 sp 4 = σ1 sp 4 := hfσ11 _ _ (zc_out_at ksp rfl)
      have t87 := zc_g4_5 hσ11 ksp
      have t88 : σ11 sp 5 = σ1 sp 5 := hfσ11 _ _ (zc_out_at ksp rfl)
      have t89 := zc_g4_6 hσ11 ksp
      have t90 : σ11 sp 6 = σ1 sp 6 := hfσ11 _ _ (zc_out_at ksp rfl)
      exact zr_zret (pc := 23) hV dX4_readNameAlone_23 rfl rfl (by omega) ⟨_, rfl, ⟨by decide, by decide⟩, hσ11, hFσ11, hOσ11, (by omega), (show ((1 : Int) = 1 → σ11 sp 0 = (zt_na (σ 2) (zt_sk (σ 2) (σ 1 1) 0) (zt_nl (σ 2) (σ 1 1) (zt_sk (σ 2) (σ 1 1) 0))) ∧ (zt_nl (σ 2) (σ 1 1) (zt_sk (σ 2) (σ 1 1) 0)) ≠ 0 ∧ (∀ i, 0 ≤ i → i < σ11 3 3 → σ11 (σ11 10 i) 0 ≠ (zt_na (σ 2) (zt_sk (σ 2) (σ 1 1) 0) (zt_nl (σ 2) (σ 1 1) (zt_sk (σ 2) (σ 1 1) 0)))) ∧ (zt_nx (σ 2) (σ 1 1) ((zt_sk (σ 2) (σ 1 1) 0) + (zt_nl (σ 2) (σ 1 1) (zt_sk (σ 2) (σ 1 1) 0)))) = -1) ∧ ((1 : Int) = 0 → (((zt_nl (σ 2) (σ 1 1) (zt_sk (σ 2) (σ 1 1) 0)) = 0 ∨ ∃ i, 0 ≤ i ∧ i < σ11 3 3 ∧ σ11 (σ11 10 i) 0 = (zt_na (σ 2) (zt_sk (σ 2) (σ 1 1) 0) (zt_nl (σ 2) (σ 1 1) (zt_sk (σ 2) (σ 1 1) 0)))) ∧ σ11 1 2 = (zt_sk (σ 2) (σ 1 1) 0)) ∨ ((zt_nl (σ 2) (σ 1 1) (zt_sk (σ 2) (σ 1 1) 0)) ≠ 0 ∧ (∀ i, 0 ≤ i → i < σ11 3 3 → σ11 (σ11 10 i) 0 ≠ (zt_na (σ 2) (zt_sk (σ 2) (σ 1 1) 0) (zt_nl (σ 2) (σ 1 1) (zt_sk (σ 2) (σ 1 1) 0)))) ∧ (zt_nx (σ 2) (σ 1 1) ((zt_sk (σ 2) (σ 1 1) 0) + (zt_nl (σ 2) (σ 1 1) (zt_sk (σ 2) (σ 1 1) 0)))) ≠ -1 ∧ σ11 1 2 = zt_sk (σ 2) (σ 1 1) ((zt_sk (σ 2) (σ 1 1) 0) + (zt_nl (σ 2) (σ 1 1) (zt_sk (σ 2) (σ 1 1) 0))))) ∧ ∀ j, 0 ≤ j → j ≤ 3 → σ11 (sp + 1) j = 0 from ⟨fun _ => ⟨by rw [hfσ11 sp 0 (zc_out_at ksp rfl)]; exact (wσ1.1 (by omega)).1, (wσ1.1 (by omega)).2.1, (fun i h0 h1 => by rw [hfσ11 3 3 (zc_out_at zc_s3 rfl)] at h1; have z3 := zc_g3_3 hσ1 zc_s3; rw [hfσ11 10 _ (zc_out_ar zc_s10 rfl), hfσ11 (σ1 10 i) 0 (zc_out_at (zc_ga10 hσ1 zc_s10 i (by omega) (by omega)) rfl)]; exact (wσ1.1 (by omega)).2.2 i h0 h1), by omega⟩, fun h => absurd h (by omega), (fun j h0 h3 => by rw [hfσ11 (sp + 1) _ (zc_out_ar (zc_p4_1 ksp) rfl)]; exact wσ1.2.2 j h0 h3)⟩)⟩
set_option maxHeartbeats 800000 in
theorem c_J6_bitCount_0f7a4_2 {σ : zq_S} (i : Int) (q0 : zq_in i) : zq_C zc_w yJ6_bitCount_0f7a4 cJ6_bitCount_0f7a4 1 (some .int) 0 0 284 284 [ZI i] σ (zq_pp σ (fun r => (0 ≤ r ∧ r ≤ 63) ∧ r = zt_bc i)) := by
  refine zq_C_of (by decide) (Nat.le_refl _) (Nat.le_of_ble_eq_true rfl) [some (ZI i)] rfl (fun V hV => ?_)
  show V 0 [some (ZI i)] [] 284 σ
  refine zr_iload_n (pc := 0) hV dJ6_bitCount_0f7a4_0 rfl rfl ?_
  refine zr_iload_n (pc := 1) hV dJ6_bitCount_0f7a4_1 rfl rfl ?_
  refine zr_iconst (pc := 2) hV 1 dJ6_bitCount_0f7a4_2 rfl ?_
  refine zr_iushr (pc := 3) hV dJ6_bitCount_0f7a4_3 ?_
  have t1 := zq_ushr_in i 1
  refine zr_ldcw (pc := 4) (v := 1431655765) hV 1431655765 dJ6_bitCount_0f7a4_4 kXJ_265 (by decide) ?_
  refine zr_iand (pc := 7) hV dJ6_bitCount_0f7a4_7 ?_
  have t2 := zq_and_nnR (x := zq_ushr i 1) (y := 1431655765) (by omega)
  refine zr_isub (pc := 8) hV dJ6_bitCount_0f7a4_8 ?_
  refine zr_istore_n (pc := 9) hV [some (ZI (i - (zq_and (zq_ushr i 1) 1431655765)))] dJ6_bitCount_0f7a4_9 rfl (by decide) rfl rfl ?_
  refine zr_iload_n (pc := 10) hV dJ6_bitCount_0f7a4_10 rfl rfl ?_
  refine zr_ldcw (pc := 11) (v := 858993459) hV 858993459 dJ6_bitCount_0f7a4_11 kXJ_266 (by decide) ?_
  refine zr_iand (pc := 14) hV dJ6_bitCount_0f7a4_14 ?_
  have t3 := zq_and_nnR (x := i - (zq_and (zq_ushr i 1) 1431655765)) (y := 858993459) (by omega)
  refine zr_iload_n (pc := 15) hV dJ6_bitCount_0f7a4_15 rfl rfl ?_
  refine zr_iconst (pc := 16) hV 2 dJ6_bitCount_0f7a4_16 rfl ?_
  refine zr_iushr (pc := 17) hV dJ6_bitCount_0f7a4_17 ?_
  have t4 := zq_ushr_in (i - (zq_and (zq_ushr i 1) 1431655765)) 2
  refine zr_ldcw (pc := 18) (v := 858993459) hV 858993459 dJ6_bitCount_0f7a4_18 kXJ_266 (by decide) ?_
  refine zr_iand (pc := 21) hV dJ6_bitCount_0f7a4_21 ?_
  have t5 := zq_and_nnR (x := zq_ushr (i - (zq_and (zq_ushr i 1) 1431655765)) 2) (y := 858993459) (by omega)
  refine zr_iadd (pc := 22) hV dJ6_bitCount_0f7a4_22 ?_
  refine zr_istore_n (pc := 23) hV [some (ZI ((zq_and (i - (zq_and (zq_ushr i 1) 1431655765)) 858993459) + (zq_and (zq_ushr (i - (zq_and (zq_ushr i 1) 1431655765)) 2) 858993459)))] dJ6_bitCount_0f7a4_23 rfl (by decide) rfl rfl ?_
  refine zr_iload_n (pc := 24) hV dJ6_bitCount_0f7a4_24 rfl rfl ?_
  refine zr_iload_n (pc := 25) hV dJ6_bitCount_0f7a4_25 rfl rfl ?_
  refine zr_iconst (pc := 26) hV 4 dJ6_bitCount_0f7a4_26 rfl ?_
  refine zr_iushr (pc := 27) hV dJ6_bitCount_0f7a4_27 ?_
  have t6 := zq_ushr_in ((zq_and (i - (zq_and (zq_ushr i 1) 1431655765)) 858993459) + (zq_and (zq_ushr (i - (zq_and (zq_ushr i 1) 1431655765)) 2) 858993459)) 4
  refine zr_iadd (pc := 28) hV dJ6_bitCount_0f7a4_28 ?_
  refine zr_ldcw (pc := 29) (v := 252645135) hV 252645135 dJ6_bitCount_0f7a4_29 kXJ_267 (by decide) ?_
  refine zr_iand (pc := 32) hV dJ6_bitCount_0f7a4_32 ?_
  have t7 := zq_and_nnR (x := ((zq_and (i - (zq_and (zq_ushr i 1) 1431655765)) 858993459) + (zq_and (zq_ushr (i - (zq_and (zq_ushr i 1) 1431655765)) 2) 858993459)) + (zq_ushr ((zq_and (i - (zq_and (zq_ushr i 1) 1431655765)) 858993459) + (zq_and (zq_ushr (i - (zq_and (zq_ushr i 1) 1431655765)) 2) 858993459)) 4)) (y := 252645135) (by omega)
  refine zr_istore_n (pc := 33) hV [some (ZI (zq_and (((zq_and (i - (zq_and (zq_ushr i 1) 1431655765)) 858993459) + (zq_and (zq_ushr (i - (zq_and (zq_ushr i 1) 1431655765)) 2) 858993459)) + (zq_ushr ((zq_and (i - (zq_and (zq_ushr i 1) 1431655765)) 858993459) + (zq_and (zq_ushr (i - (zq_and (zq_ushr i 1) 1431655765)) 2) 858993459)) 4)) 252645135))] dJ6_bitCount_0f7a4_33 rfl (by decide) rfl rfl ?_
  refine zr_iload_n (pc := 34) hV dJ6_bitCount_0f7a4_34 rfl rfl ?_
  refine zr_iload_n (pc := 35) hV dJ6_bitCount_0f7a4_35 rfl rfl ?_
  refine zr_bipush (pc := 36) hV 8 dJ6_bitCount_0f7a4_36 (by decide) ?_
  refine zr_iushr (pc := 38) hV dJ6_bitCount_0f7a4_38 ?_
  have t8 := zq_ushr_in (zq_and (((zq_and (i - (zq_and (zq_ushr i 1) 1431655765)) 858993459) + (zq_and (zq_ushr (i - (zq_and (zq_ushr i 1) 1431655765)) 2) 858993459)) + (zq_ushr ((zq_and (i - (zq_and (zq_ushr i 1) 1431655765)) 858993459) + (zq_and (zq_ushr (i - (zq_and (zq_ushr i 1) 1431655765)) 2) 858993459)) 4)) 252645135) 8
  refine zr_iadd (pc := 39) hV dJ6_bitCount_0f7a4_39 ?_
  refine zr_istore_n (pc := 40) hV [some (ZI ((zq_and (((zq_and (i - (zq_and (zq_ushr i 1) 1431655765)) 858993459) + (zq_and (zq_ushr (i - (zq_and (zq_ushr i 1) 1431655765)) 2) 858993459)) + (zq_ushr ((zq_and (i - (zq_and (zq_ushr i 1) 1431655765)) 858993459) + (zq_and (zq_ushr (i - (zq_and (zq_ushr i 1) 1431655765)) 2) 858993459)) 4)) 252645135) + (zq_ushr (zq_and (((zq_and (i - (zq_and (zq_ushr i 1) 1431655765)) 858993459) + (zq_and (zq_ushr (i - (zq_and (zq_ushr i 1) 1431655765)) 2) 858993459)) + (zq_ushr ((zq_and (i - (zq_and (zq_ushr i 1) 1431655765)) 858993459) + (zq_and (zq_ushr (i - (zq_and (zq_ushr i 1) 1431655765)) 2) 858993459)) 4)) 252645135) 8)))] dJ6_bitCount_0f7a4_40 rfl (by decide) rfl rfl ?_
  refine zr_iload_n (pc := 41) hV dJ6_bitCount_0f7a4_41 rfl rfl ?_
  refine zr_iload_n (pc := 42) hV dJ6_bitCount_0f7a4_42 rfl rfl ?_
  refine zr_bipush (pc := 43) hV 16 dJ6_bitCount_0f7a4_43 (by decide) ?_
  refine zr_iushr (pc := 45) hV dJ6_bitCount_0f7a4_45 ?_
  have t9 := zq_ushr_in ((zq_and (((zq_and (i - (zq_and (zq_ushr i 1) 1431655765)) 858993459) + (zq_and (zq_ushr (i - (zq_and (zq_ushr i 1) 1431655765)) 2) 858993459)) + (zq_ushr ((zq_and (i - (zq_and (zq_ushr i 1) 1431655765)) 858993459) + (zq_and (zq_ushr (i - (zq_and (zq_ushr i 1) 1431655765)) 2) 858993459)) 4)) 252645135) + (zq_ushr (zq_and (((zq_and (i - (zq_and (zq_ushr i 1) 1431655765)) 858993459) + (zq_and (zq_ushr (i - (zq_and (zq_ushr i 1) 1431655765)) 2) 858993459)) + (zq_ushr ((zq_and (i - (zq_and (zq_ushr i 1) 1431655765)) 858993459) + (zq_and (zq_ushr (i - (zq_and (zq_ushr i 1) 1431655765)) 2) 858993459)) 4)) 252645135) 8)) 16
  refine zr_iadd (pc := 46) hV dJ6_bitCount_0f7a4_46 ?_
  refine zr_istore_n (pc := 47) hV [some (ZI (((zq_and (((zq_and (i - (zq_and (zq_ushr i 1) 1431655765)) 858993459) + (zq_and (zq_ushr (i - (zq_and (zq_ushr i 1) 1431655765)) 2) 858993459)) + (zq_ushr ((zq_and (i - (zq_and (zq_ushr i 1) 1431655765)) 858993459) + (zq_and (zq_ushr (i - (zq_and (zq_ushr i 1) 1431655765)) 2) 858993459)) 4)) 252645135) + (zq_ushr (zq_and (((zq_and (i - (zq_and (zq_ushr i 1) 1431655765)) 858993459) + (zq_and (zq_ushr (i - (zq_and (zq_ushr i 1) 1431655765)) 2) 858993459)) + (zq_ushr ((zq_and (i - (zq_and (zq_ushr i 1) 1431655765)) 858993459) + (zq_and (zq_ushr (i - (zq_and (zq_ushr i 1) 1431655765)) 2) 858993459)) 4)) 252645135) 8)) + (zq_ushr ((zq_and (((zq_and (i - (zq_and (zq_ushr i 1) 1431655765)) 858993459) + (zq_and (zq_ushr (i - (zq_and (zq_ushr i 1) 1431655765)) 2) 858993459)) + (zq_ushr ((zq_and (i - (zq_and (zq_ushr i 1) 1431655765)) 858993459) + (zq_and (zq_ushr (i - (zq_and (zq_ushr i 1) 1431655765)) 2) 858993459)) 4)) 252645135) + (zq_ushr (zq_and (((zq_and (i - (zq_and (zq_ushr i 1) 1431655765)) 858993459) + (zq_and (zq_ushr (i - (zq_and (zq_ushr i 1) 1431655765)) 2) 858993459)) + (zq_ushr ((zq_and (i - (zq_and (zq_ushr i 1) 1431655765)) 858993459) + (zq_and (zq_ushr (i - (zq_and (zq_ushr i 1) 1431655765)) 2) 858993459)) 4)) 252645135) 8)) 16)))] dJ6_bitCount_0f7a4_47 rfl (by decide) rfl rfl ?_
  refine zr_iload_n (pc := 48) hV dJ6_bitCount_0f7a4_48 rfl rfl ?_
  refine zr_bipush (pc := 49) hV 63 dJ6_bitCount_0f7a4_49 (by decide) ?_
  refine zr_iand (pc := 51) hV dJ6_bitCount_0f7a4_51 ?_
  have t10 := zq_and_mask (((zq_and (((zq_and (i - (zq_and (zq_ushr i 1) 1431655765)) 858993459) + (zq_and (zq_ushr (i - (zq_and (zq_ushr i 1) 1431655765)) 2) 858993459)) + (zq_ushr ((zq_and (i - (zq_and (zq_ushr i 1) 1431655765)) 858993459) + (zq_and (zq_ushr (i - (zq_and (zq_ushr i 1) 1431655765)) 2) 858993459)) 4)) 252645135) + (zq_ushr (zq_and (((zq_and (i - (zq_and (zq_ushr i 1) 1431655765)) 858993459) + (zq_and (zq_ushr (i - (zq_and (zq_ushr i 1) 1431655765)) 2) 858993459)) + (zq_ushr ((zq_and (i - (zq_and (zq_ushr i 1) 1431655765)) 858993459) + (zq_and (zq_ushr (i - (zq_and (zq_ushr i 1) 1431655765)) 2) 858993459)) 4)) 252645135) 8)) + (zq_ushr ((zq_and (((zq_and (i - (zq_and (zq_ushr i 1) 1431655765)) 858993459) + (zq_and (zq_ushr (i - (zq_and (zq_ushr i 1) 1431655765)) 2) 858993459)) + (zq_ushr ((zq_and (i - (zq_and (zq_ushr i 1) 1431655765)) 858993459) + (zq_and (zq_ushr (i - (zq_and (zq_ushr i 1) 1431655765)) 2) 858993459)) 4)) 252645135) + (zq_ushr (zq_and (((zq_and (i - (zq_and (zq_ushr i 1) 1431655765)) 858993459) + (zq_and (zq_ushr (i - (zq_and (zq_ushr i 1) 1431655765)) 2) 858993459)) + (zq_ushr ((zq_and (i - (zq_and (zq_ushr i 1) 1431655765)) 858993459) + (zq_and (zq_ushr (i - (zq_and (zq_ushr i 1) 1431655765)) 2) 858993459)) 4)) 252645135) 8)) 16)) 6 63 64 (by decide) (by decide) (by decide)
  exact zr_iret (pc := 52) hV dJ6_bitCount_0f7a4_52 rfl rfl ⟨rfl, _, rfl, (by omega), ⟨by omega, (by show _ = zt_bc i; rfl)⟩⟩
set_option maxHeartbeats 800000 in
theorem c_X3_fieldBits_2 {σ : zq_S} (hσ : zc_T σ) (this : Int) (kthis : zc_kd this = 4) (f : Int) (q0 : 0 ≤ f ∧ f ≤ 3) : zq_C zc_w yX3_fieldBits cX3_fieldBits 2 (some .int) 1 20 284 284 [ZR this, ZI f] σ (zq_pp σ (fun r => (0 ≤ r ∧ r ≤ 63) ∧ r = zt_bc (σ (this + 1) f))) := by
  refine zq_C_of (by decide) (Nat.le_refl _) (Nat.le_of_ble_eq_true rfl) [some (ZR this), some (ZI f)] rfl (fun V hV => ?_)
  have pothis := zc_pos kthis rfl
  show V 0 [some (ZR this), some (ZI f)] [] 284 σ
  refine zr_aload_n (pc := 0) hV dX3_fieldBits_0 rfl rfl ?_
  refine zr_getR (pc := 1) hV 3 (this + 1) dX3_fieldBits_1 fX3_9 rfl rfl (zc_k4 kthis) (zc_pos kthis rfl) (zc_g4_3 hσ kthis) (zc_pos (zc_p4_1 kthis) rfl).1 ?_
  refine zr_iload_n (pc := 4) hV dX3_fieldBits_4 rfl rfl ?_
  refine zr_iald (pc := 5) hV dX3_fieldBits_5 (zc_k5 (zc_p4_1 kthis)) (zc_pos (zc_p4_1 kthis) rfl) rfl (by omega) ?_
  have t1 := zc_ga5 hσ (zc_p4_1 kthis) f
  refine zr_callSp (pc := 6) hV [ZI (σ (this + 1) f)] (st := []) (c_J6_bitCount_0f7a4_2 (σ := σ) (σ (this + 1) f) (by omega)) dX3_fieldBits_6 mX3_78 (by decide) (Nat.le_of_ble_eq_true rfl) (Nat.le_refl _) (fun r6 hr6 pr6 => ?_)
  exact zr_iret (pc := 9) hV dX3_fieldBits_9 rfl rfl ⟨rfl, _, rfl, (by omega), (by omega)⟩
set_option maxHeartbeats 800000 in
theorem c_X4_areFieldsAsTold_2 {σ : zq_S} (hσ : zc_T σ) (order : Int) (korder : zc_kd order = 4)  : zq_C zc_w yX4_areFieldsAsTold cX4_areFieldsAsTold 3 (some .boolean) 2 41 284 284 [ZR 132, ZR order] σ (zq_pp σ (fun r => (0 ≤ r ∧ r ≤ 1) ∧ (r = 1 ↔ zt_fok (σ (order + 1)) (σ 3 1) (σ 3 0)))) := by
  refine zq_C_of (by decide) (Nat.le_refl _) (Nat.le_of_ble_eq_true rfl) [some (ZR 132), some (ZR order), none] rfl (fun V hV => ?_)
  have poorder := zc_pos korder rfl
  show V 0 [some (ZR 132), some (ZR order), none] [] 284 σ
  refine zr_iconst (pc := 0) hV 0 dX4_areFieldsAsTold_0 rfl ?_
  refine zr_istore_n (pc := 1) hV [some (ZR 132), some (ZR order), some (ZI 0)] dX4_areFieldsAsTold_1 rfl (by decide) rfl rfl ?_
  have L2 : ∀ (fuel : Nat) (x2_2 : Int), (0 ≤ x2_2 ∧ x2_2 ≤ 3) → (zq_hid (∀ f, 0 ≤ f → f < x2_2 → σ (order + 1) f ≠ 0 → zt_bc (σ (order + 1) f) = σ 3 1)) → 3 - x2_2 < (fuel : Int) → V 2 [some (ZR 132), some (ZR order), some (ZI x2_2)] [] 284 σ := by
    intro fuel
    induction fuel with
    | zero =>
      intro x2_2 hx2_2 hi2_0 hm2
      exfalso; omega
    | succ fuel ih =>
      intro x2_2 hx2_2 hi2_0 hm2
      have ih2 := ih
      show V 2 [some (ZR 132), some (ZR order), some (ZI x2_2)] [] 284 σ
      refine zr_iload_n (pc := 2) hV dX4_areFieldsAsTold_2 rfl rfl ?_
      refine zr_iconst (pc := 3) hV 2 dX4_areFieldsAsTold_3 rfl ?_
      refine zr_icmp_gt (pc := 4) hV 38 dX4_areFieldsAsTold_4 (by decide) (by omega) ⟨by decide, by decide⟩ (fun c1 => ?_) (fun c1 => ?_)
      · show V 38 [some (ZR 132), some (ZR order), some (ZI x2_2)] [] 284 σ
        refine zr_aload_n (pc := 38) hV dX4_areFieldsAsTold_38 rfl rfl ?_
        refine zr_iconst (pc := 39) hV 3 dX4_areFieldsAsTold_39 rfl ?_
        refine zr_callVp (pc := 40) hV [ZI 3] (st := []) (c_X3_fieldBits_2 (σ := σ) hσ order korder 3 (by omega)) dX4_areFieldsAsTold_40 mX4_102 (zc_k4 korder) (zc_pos korder rfl) (by decide) (Nat.le_of_ble_eq_true rfl) (Nat.le_refl _) (fun r40 hr40 pr40 => ?_)
        refine zr_aload_n (pc := 43) hV dX4_areFieldsAsTold_43 rfl rfl ?_
        refine zr_getR (pc := 44) hV 1 3 dX4_areFieldsAsTold_44 fX4_19 rfl rfl (zc_k132 zc_s132) (zc_pos zc_s132 rfl) (zc_g132_1 hσ zc_s132) (by decide) ?_
        refine zr_getI (pc := 47) hV 0 dX4_areFieldsAsTold_47 fX4_108 rfl rfl (zc_k3 zc_s3) (zc_pos zc_s3 rfl) ?_
        have t2 := zc_g3_0 hσ zc_s3
        refine zr_icmp_gt (pc := 50) hV 57 dX4_areFieldsAsTold_50 (by decide) (by omega) (by omega) (fun c3 => ?_) (fun c3 => ?_)
        · show V 57 [some (ZR 132), some (ZR order), some (ZI x2_2)] [] 284 σ
          refine zr_iconst (pc := 57) hV 0 dX4_areFieldsAsTold_57 rfl ?_
          show V 58 [some (ZR 132), some (ZR order), some (ZI x2_2)] [ZI 0] 284 σ
          exact zr_zret (pc := 58) hV dX4_areFieldsAsTold_58 rfl rfl (by omega) ⟨rfl, _, rfl, ⟨by decide, by decide⟩, ⟨by omega, ⟨fun h => absurd h (by omega), fun h => by first | exact absurd (h.1 x2_2 (by omega) (by omega) (by omega)) (by omega) | exact absurd h.2 (by omega)⟩⟩⟩
        · show V 53 [some (ZR 132), some (ZR order), some (ZI x2_2)] [] 284 σ
          refine zr_iconst (pc := 53) hV 1 dX4_areFieldsAsTold_53 rfl ?_
          refine zr_goto (pc := 54) hV 58 dX4_areFieldsAsTold_54 (by decide) ?_
          show V 58 [some (ZR 132), some (ZR order), some (ZI x2_2)] [ZI 1] 284 σ
          exact zr_zret (pc := 58) hV dX4_areFieldsAsTold_58 rfl rfl (by omega) ⟨rfl, _, rfl, ⟨by decide, by decide⟩, ⟨by omega, ⟨fun _ => ⟨fun f h0 h2 hm => hi2_0 f h0 (by omega) hm, by omega⟩, fun _ => rfl⟩⟩⟩
      · show V 7 [some (ZR 132), some (ZR order), some (ZI x2_2)] [] 284 σ
        refine zr_aload_n (pc := 7) hV dX4_areFieldsAsTold_7 rfl rfl ?_
        refine zr_iload_n (pc := 8) hV dX4_areFieldsAsTold_8 rfl rfl ?_
        refine zr_callVp (pc := 9) hV [ZI x2_2] (st := []) (c_X3_hasField_2 (σ := σ) hσ order korder x2_2 (by omega)) dX4_areFieldsAsTold_9 mX4_99 (zc_k4 korder) (zc_pos korder rfl) (by decide) (Nat.le_of_ble_eq_true rfl) (Nat.le_refl _) (fun r9 hr9 pr9 => ?_)
        refine zr_if_eq (pc := 12) hV 32 dX4_areFieldsAsTold_12 (by decide) (by omega) (fun c4 => ?_) (fun c4 => ?_)
        · show V 32 [some (ZR 132), some (ZR order), some (ZI x2_2)] [] 284 σ
          refine zr_iinc (pc := 32) hV [some (ZR 132), some (ZR order), some (ZI (x2_2 + 1))] (x2_2 + 1) dX4_areFieldsAsTold_32 rfl rfl (by decide) rfl rfl ?_
          refine zr_goto (pc := 35) hV 2 dX4_areFieldsAsTold_35 (by decide) ?_
          have t5 := zc_g3_1 hσ zc_s3
          exact ih2 (x2_2 + 1) (by omega) (fun f h0 h1 hm => if hc : f = x2_2 then (by rw [hc] at hm ⊢; omega) else hi2_0 f h0 (by omega) hm) (by omega)
        · show V 15 [some (ZR 132), some (ZR order), some (ZI x2_2)] [] 284 σ
          refine zr_aload_n (pc := 15) hV dX4_areFieldsAsTold_15 rfl rfl ?_
          refine zr_iload_n (pc := 16) hV dX4_areFieldsAsTold_16 rfl rfl ?_
          refine zr_callVp (pc := 17) hV [ZI x2_2] (st := []) (c_X3_fieldBits_2 (σ := σ) hσ order korder x2_2 (by omega)) dX4_areFieldsAsTold_17 mX4_102 (zc_k4 korder) (zc_pos korder rfl) (by decide) (Nat.le_of_ble_eq_true rfl) (Nat.le_refl _) (fun r17 hr17 pr17 => ?_)
          refine zr_aload_n (pc := 20) hV dX4_areFieldsAsTold_20 rfl rfl ?_
          refine zr_getR (pc := 21) hV 1 3 dX4_areFieldsAsTold_21 fX4_19 rfl rfl (zc_k132 zc_s132) (zc_pos zc_s132 rfl) (zc_g132_1 hσ zc_s132) (by decide) ?_
          refine zr_getI (pc := 24) hV 1 dX4_areFieldsAsTold_24 fX4_105 rfl rfl (zc_k3 zc_s3) (zc_pos zc_s3 rfl) ?_
          have t6 := zc_g3_1 hσ zc_s3
          refine zr_icmp_eq (pc := 27) hV 32 dX4_areFieldsAsTold_27 (by decide) (by omega) (by omega) (fun c7 => ?_) (fun c7 => ?_)
          · show V 32 [some (ZR 132), some (ZR order), some (ZI x2_2)] [] 284 σ
            refine zr_iinc (pc := 32) hV [some (ZR 132), some (ZR order), some (ZI (x2_2 + 1))] (x2_2 + 1) dX4_areFieldsAsTold_32 rfl rfl (by decide) rfl rfl ?_
            refine zr_goto (pc := 35) hV 2 dX4_areFieldsAsTold_35 (by decide) ?_
            have t8 := zc_g3_1 hσ zc_s3
            exact ih2 (x2_2 + 1) (by omega) (fun f h0 h1 hm => if hc : f = x2_2 then (by rw [hc] at hm ⊢; omega) else hi2_0 f h0 (by omega) hm) (by omega)
          · show V 30 [some (ZR 132), some (ZR order), some (ZI x2_2)] [] 284 σ
            refine zr_iconst (pc := 30) hV 0 dX4_areFieldsAsTold_30 rfl ?_
            exact zr_zret (pc := 31) hV dX4_areFieldsAsTold_31 rfl rfl (by omega) ⟨rfl, _, rfl, ⟨by decide, by decide⟩, ⟨by omega, ⟨fun h => absurd h (by omega), fun h => by first | exact absurd (h.1 x2_2 (by omega) (by omega) (by omega)) (by omega) | exact absurd h.2 (by omega)⟩⟩⟩
  have t9 := zc_g3_1 hσ zc_s3
  exact L2 (3 - (0 : Int) + 1 : Int).toNat 0 (by omega) (fun f h0 h1 => absurd h1 (by omega)) (by omega)
set_option maxHeartbeats 800000 in
theorem c_X9_bitsInAll_2 {σ : zq_S} (hσ : zc_T σ)   : zq_C zc_w yX9_bitsInAll cX9_bitsInAll 1 (some .int) 0 0 284 284 [ZR 3] σ (zq_pp σ (fun r => (1 ≤ r ∧ r ≤ 4096) ∧ r = zx_p2 (σ 3 2))) := by
  refine zq_C_of (by decide) (Nat.le_refl _) (Nat.le_of_ble_eq_true rfl) [some (ZR 3)] rfl (fun V hV => ?_)
  show V 0 [some (ZR 3)] [] 284 σ
  refine zr_iconst (pc := 0) hV 1 dX9_bitsInAll_0 rfl ?_
  refine zr_aload_n (pc := 1) hV dX9_bitsInAll_1 rfl rfl ?_
  refine zr_getI (pc := 2) hV 2 dX9_bitsInAll_2 fX9_33 rfl rfl (zc_k3 zc_s3) (zc_pos zc_s3 rfl) ?_
  have t1 := zc_g3_2 hσ zc_s3
  refine zr_ishl (pc := 5) hV dX9_bitsInAll_5 ?_
  have t2 := zx_shl_one (y := σ 3 2) 12 4096 (by decide) (by decide) (by omega)
  exact zr_iret (pc := 6) hV dX9_bitsInAll_6 rfl rfl ⟨rfl, _, rfl, (by omega), (by omega)⟩
set_option maxHeartbeats 800000 in
theorem c_X4_readLook_2 {σ : zq_S} (hσ : zc_T σ) (sp : Int) (esp : σ 3 5 = sp) (ksp : zc_kd sp = 4) (q0 : σ sp 1 = 0 ∧ σ sp 2 = 0) (q1 : ∀ j, 0 ≤ j → j ≤ 3 → σ (sp + 1) j = 0) : zq_C zc_w yX4_readLook cX4_readLook 5 (some .boolean) 3 63 284 284 [ZR 132] σ (zq_pi (fun r τ => zc_T τ ∧ zc_Fr [(1, 2), (4, 1), (4, 2), (5, -1)] σ τ ∧ zd_Own sp σ τ ∧ ((0 ≤ r ∧ r ≤ 1) ∧ τ 1 2 = zt_sk (σ 2) (σ 1 1) (zt_lp (σ 2) (σ 1 1) (σ 1 2) (zt_lr (σ 2) (σ 1 1) (σ 1 2) (σ 3 2) 0))) ∧ zq_hid ((r = 1 → (zt_lr (σ 2) (σ 1 1) (σ 1 2) (σ 3 2) 0) = σ 3 2 ∧ zt_fok (τ (sp + 1)) (σ 3 1) (σ 3 0)) ∧ (r = 0 → (zt_lr (σ 2) (σ 1 1) (σ 1 2) (σ 3 2) 0) = σ 3 2 → ¬ zt_fok (τ (sp + 1)) (σ 3 1) (σ 3 0)) ∧ ((zt_lr (σ 2) (σ 1 1) (σ 1 2) (σ 3 2) 0) = σ 3 2 → τ sp 1 = zt_mk (fun i => decide (zt_lv (σ 2) (σ 1 1) (σ 1 2) i ≤ 1)) (σ 3 2) ∧ τ sp 2 = zt_mk (fun i => decide (zt_lv (σ 2) (σ 1 1) (σ 1 2) i = 1)) (σ 3 2) ∧ ∀ f, 0 ≤ f → f ≤ 3 → τ (sp + 1) f = zt_mk (fun i => decide (zt_lv (σ 2) (σ 1 1) (σ 1 2) i = 2 + f)) (σ 3 2))))) := by
  refine zq_C_of (by decide) (Nat.le_refl _) (Nat.le_of_ble_eq_true rfl) [some (ZR 132), none, none, none, none] rfl (fun V hV => ?_)
  have hFσ := zc_Fr_rf [(1, 2), (4, 1), (4, 2), (5, -1)] σ
  have hOσ := zd_Own_rf sp σ
  have posp := zc_pos ksp rfl
  show V 0 [some (ZR 132), none, none, none, none] [] 284 σ
  refine zr_aload_n (pc := 0) hV dX4_readLook_0 rfl rfl ?_
  refine zr_getR (pc := 1) hV 1 3 dX4_readLook_1 fX4_19 rfl rfl (zc_k132 zc_s132) (zc_pos zc_s132 rfl) (zc_g132_1 hσ zc_s132) (by decide) ?_
  refine zr_getR (pc := 4) hV 5 sp dX4_readLook_4 fX4_49 rfl rfl (zc_k3 zc_s3) (zc_pos zc_s3 rfl) (by omega) (zc_pos ksp rfl).1 ?_
  refine zr_astore_n (pc := 7) hV [some (ZR 132), some (ZR sp), none, none, none] dX4_readLook_7 rfl (by decide) rfl rfl ?_
  refine zr_aload_n (pc := 8) hV dX4_readLook_8 rfl rfl ?_
  refine zr_getR (pc := 9) hV 1 3 dX4_readLook_9 fX4_19 rfl rfl (zc_k132 zc_s132) (zc_pos zc_s132 rfl) (zc_g132_1 hσ zc_s132) (by decide) ?_
  refine zr_callVp (pc := 12) hV [] (st := []) (c_X9_bitsInAll_2 (σ := σ) hσ) dX4_readLook_12 mX4_77 (zc_k3 zc_s3) (zc_pos zc_s3 rfl) (by decide) (Nat.le_of_ble_eq_true rfl) (Nat.le_refl _) (fun r12 hr12 pr12 => ?_)
  have t1 := zc_g3_2 hσ zc_s3
  have zb2 := zc_g3_2 hσ zc_s3
  have ze0 : 0 < σ 3 2 → zx_p2 (σ 3 2) = 2 * zx_p2 (σ 3 2 - 1 - 0) := fun h => by rw [show σ 3 2 = σ 3 2 - 1 - 0 + 1 by omega]; rw [show σ 3 2 - 1 - 0 + 1 - 1 - 0 = σ 3 2 - 1 - 0 by omega]; exact zx_p2_s _ (by omega)
  have ze1 : 0 = σ 3 2 → zx_p2 (σ 3 2) = 1 := fun h => by rw [← h]; exact zx_p2_0
  refine zr_iconst (pc := 15) hV 1 dX4_readLook_15 rfl ?_
  refine zr_ishr (pc := 16) hV dX4_readLook_16 ?_
  have t2 : zq_shr r12 1 = r12 / 2 := zq_shr_c (x := r12) 1 2 (by decide) (by decide) (by omega)
  refine zr_istore_n (pc := 17) hV [some (ZR 132), some (ZR sp), some (ZI (zq_shr r12 1)), none, none] dX4_readLook_17 rfl (by decide) rfl rfl ?_
  have L18 : ∀ (fuel : Nat) (x2_18 : Int) (σ_18 : zq_S) (j18 : Int), (0 ≤ x2_18 ∧ x2_18 ≤ 2048) → (zc_T σ_18) → (zc_Fr [(1, 2), (4, 1), (4, 2), (5, -1)] σ σ_18) → (zd_Own sp σ σ_18) → (0 ≤ j18 ∧ j18 ≤ σ 3 2) → ((j18 < σ 3 2 → x2_18 = zx_p2 (σ 3 2 - 1 - j18)) ∧ (j18 = σ 3 2 → x2_18 = 0)) → (σ_18 1 2 = zt_lp (σ 2) (σ 1 1) (σ 1 2) j18) → (zt_lr (σ 2) (σ 1 1) (σ 1 2) (σ 3 2) j18 = (zt_lr (σ 2) (σ 1 1) (σ 1 2) (σ 3 2) 0)) → (σ_18 sp 1 = zt_mk (fun i => decide (zt_lv (σ 2) (σ 1 1) (σ 1 2) i ≤ 1)) j18 * zx_p2 (σ 3 2 - j18)) → (σ_18 sp 2 = zt_mk (fun i => decide (zt_lv (σ 2) (σ 1 1) (σ 1 2) i = 1)) j18 * zx_p2 (σ 3 2 - j18)) → (∀ f, 0 ≤ f → f ≤ 3 → σ_18 (sp + 1) f = zt_mk (fun i => decide (zt_lv (σ 2) (σ 1 1) (σ 1 2) i = 2 + f)) j18 * zx_p2 (σ 3 2 - j18)) → x2_18 < (fuel : Int) → V 18 [some (ZR 132), some (ZR sp), some (ZI x2_18), none, none] [] 284 σ_18 := by
    intro fuel
    induction fuel with
    | zero =>
      intro x2_18 σ_18 j18 hx2_18 hσ_18 hFσ_18 hOσ_18 hi18_0 hi18_1 hi18_2 hi18_3 hi18_4 hi18_5 hi18_6 hm18
      exfalso; omega
    | succ fuel ih =>
      intro x2_18 σ_18 j18 hx2_18 hσ_18 hFσ_18 hOσ_18 hi18_0 hi18_1 hi18_2 hi18_3 hi18_4 hi18_5 hi18_6 hm18
      have ih18 := ih
      show V 18 [some (ZR 132), some (ZR sp), some (ZI x2_18), none, none] [] 284 σ_18
      refine zr_iload_n (pc := 18) hV dX4_readLook_18 rfl rfl ?_
      have zpp := zx_p2_pos (σ 3 2 - 1 - j18)
      refine zr_if_le (pc := 19) hV 116 dX4_readLook_19 (by decide) (by omega) (fun c3 => ?_) (fun c3 => ?_)
      · show V 116 [some (ZR 132), some (ZR sp), some (ZI x2_18), none, none] [] 284 σ_18
        refine zr_aload_n (pc := 116) hV dX4_readLook_116 rfl rfl ?_
        refine zr_getR (pc := 117) hV 0 1 dX4_readLook_117 fX4_15 rfl rfl (zc_k132 zc_s132) (zc_pos zc_s132 rfl) (zc_g132_0 hσ_18 zc_s132) (by decide) ?_
        refine zr_callVi (pc := 120) hV [] (st := []) (c_X8_next_2 (σ := σ_18) hσ_18) dX4_readLook_120 mX4_45 (zc_k1 zc_s1) (zc_pos zc_s1 rfl) (by decide) (Nat.le_of_ble_eq_true rfl) (Nat.le_refl _) (fun r120 σ120 hr120 pσ120 => ?_)
        obtain ⟨hσ120, hfσ120, pσ120⟩ := pσ120
        have hFσ120 := zc_Fc hfσ120 rfl hFσ_18
        have hOσ120 := zd_Oc hfσ120 rfl hOσ_18
        have t4 := zc_g1_1 hσ_18 zc_s1
        have t5 : σ_18 1 1 = σ 1 1 := hFσ_18 _ _ (zc_out_at zc_s1 rfl)
        have t6 := zc_g1_2 hσ_18 zc_s1
        have Tσ_18 : σ_18 2 = σ 2 := funext (fun i => hFσ_18 2 i (zc_out_ar zc_s2 rfl))
        have Nσ_18 : σ_18 1 1 = σ 1 1 := hFσ_18 1 1 (zc_out_at zc_s1 rfl)
        rw [Tσ_18, Nσ_18] at pσ120
        have t7 := zc_g1_2 hσ120 zc_s1
        have zlr : (zt_lr (σ 2) (σ 1 1) (σ 1 2) (σ 3 2) 0) = σ 3 2 := by rw [← hi18_3, show j18 = σ 3 2 by omega]; exact zt_lr_n (by omega)
        rw [hi18_2] at pσ120
        refine zr_pop (pc := 123) hV dX4_readLook_123 (fun _ => rfl) ?_
        refine zr_aload_n (pc := 124) hV dX4_readLook_124 rfl rfl ?_
        refine zr_aload_n (pc := 125) hV dX4_readLook_125 rfl rfl ?_
        refine zr_callVp (pc := 126) hV [ZR sp] (st := []) (c_X4_areFieldsAsTold_2 (σ := σ120) hσ120 sp ksp) dX4_readLook_126 mX4_95 (zc_k132 zc_s132) (zc_pos zc_s132 rfl) (by decide) (Nat.le_of_ble_eq_true rfl) (Nat.le_refl _) (fun r126 hr126 pr126 => ?_)
        have t8 := zc_g3_0 hσ120 zc_s3
        have t9 : σ120 3 0 = σ_18 3 0 := hfσ120 _ _ (zc_out_at zc_s3 rfl)
        have t10 : σ_18 3 0 = σ 3 0 := hFσ_18 _ _ (zc_out_at zc_s3 rfl)
        have t11 := zc_g3_1 hσ120 zc_s3
        have t12 : σ120 3 1 = σ_18 3 1 := hfσ120 _ _ (zc_out_at zc_s3 rfl)
        have t13 : σ_18 3 1 = σ 3 1 := hFσ_18 _ _ (zc_out_at zc_s3 rfl)
        have Hσ120 : σ120 (sp + 1) = σ120 (sp + 1) := rfl
        have K1 : σ120 3 1 = σ 3 1 := hFσ120 3 1 (zc_out_at zc_s3 rfl)
        have K0 : σ120 3 0 = σ 3 0 := hFσ120 3 0 (zc_out_at zc_s3 rfl)
        have t14 := zc_g4_1 hσ120 ksp
        have t15 : σ120 sp 1 = σ_18 sp 1 := hfσ120 _ _ (zc_out_at ksp rfl)
        have t16 := zc_g4_2 hσ120 ksp
        have t17 : σ120 sp 2 = σ_18 sp 2 := hfσ120 _ _ (zc_out_at ksp rfl)
        have t18 := zc_g1_2 hσ120 zc_s1
        exact zr_zret (pc := 129) hV dX4_readLook_129 rfl rfl (by omega) ⟨_, rfl, (by omega), hσ120, hFσ120, hOσ120, ⟨by omega, (by rw [zlr, show σ 3 2 = j18 by omega]; omega)⟩, (show (r126 = 1 → (zt_lr (σ 2) (σ 1 1) (σ 1 2) (σ 3 2) 0) = σ 3 2 ∧ zt_fok (σ120 (sp + 1)) (σ 3 1) (σ 3 0)) ∧ (r126 = 0 → (zt_lr (σ 2) (σ 1 1) (σ 1 2) (σ 3 2) 0) = σ 3 2 → ¬ zt_fok (σ120 (sp + 1)) (σ 3 1) (σ 3 0)) ∧ ((zt_lr (σ 2) (σ 1 1) (σ 1 2) (σ 3 2) 0) = σ 3 2 → σ120 sp 1 = zt_mk (fun i => decide (zt_lv (σ 2) (σ 1 1) (σ 1 2) i ≤ 1)) (σ 3 2) ∧ σ120 sp 2 = zt_mk (fun i => decide (zt_lv (σ 2) (σ 1 1) (σ 1 2) i = 1)) (σ 3 2) ∧ ∀ f, 0 ≤ f → f ≤ 3 → σ120 (sp + 1) f = zt_mk (fun i => decide (zt_lv (σ 2) (σ 1 1) (σ 1 2) i = 2 + f)) (σ 3 2)) from ⟨fun h => ⟨by omega, by rw [← Hσ120, ← K1, ← K0]; exact pr126.2.mp h⟩, fun h _ q => absurd (pr126.2.mpr (by rw [← Hσ120, ← K1, ← K0] at q; exact q)) (by omega), fun _ => ⟨by rw [hfσ120 sp _ (zc_out_at ksp rfl)]; have := hi18_4; rw [show σ 3 2 - j18 = 0 by omega, zx_p2_0, Int.mul_one, show j18 = σ 3 2 by omega] at this; exact this, by rw [hfσ120 sp _ (zc_out_at ksp rfl)]; have := hi18_5; rw [show σ 3 2 - j18 = 0 by omega, zx_p2_0, Int.mul_one, show j18 = σ 3 2 by omega] at this; exact this, fun f h0 h3 => by rw [hfσ120 (sp + 1) _ (zc_out_ar (zc_p4_1 ksp) rfl)]; have := hi18_6 f h0 h3; rw [show σ 3 2 - j18 = 0 by omega, zx_p2_0, Int.mul_one, show j18 = σ 3 2 by omega] at this; exact this⟩⟩)⟩
      · show V 22 [some (ZR 132), some (ZR sp), some (ZI x2_18), none, none] [] 284 σ_18
        refine zr_aload_n (pc := 22) hV dX4_readLook_22 rfl rfl ?_
        refine zr_getR (pc := 23) hV 0 1 dX4_readLook_23 fX4_15 rfl rfl (zc_k132 zc_s132) (zc_pos zc_s132 rfl) (zc_g132_0 hσ_18 zc_s132) (by decide) ?_
        refine zr_callVi (pc := 26) hV [] (st := []) (c_X8_next_2 (σ := σ_18) hσ_18) dX4_readLook_26 mX4_45 (zc_k1 zc_s1) (zc_pos zc_s1 rfl) (by decide) (Nat.le_of_ble_eq_true rfl) (Nat.le_refl _) (fun r26 σ26 hr26 pσ26 => ?_)
        obtain ⟨hσ26, hfσ26, pσ26⟩ := pσ26
        have hFσ26 := zc_Fc hfσ26 rfl hFσ_18
        have hOσ26 := zd_Oc hfσ26 rfl hOσ_18
        have t19 := zc_g1_1 hσ_18 zc_s1
        have t20 : σ_18 1 1 = σ 1 1 := hFσ_18 _ _ (zc_out_at zc_s1 rfl)
        have t21 := zc_g1_2 hσ_18 zc_s1
        have Tσ_18 : σ_18 2 = σ 2 := funext (fun i => hFσ_18 2 i (zc_out_ar zc_s2 rfl))
        have Nσ_18 : σ_18 1 1 = σ 1 1 := hFσ_18 1 1 (zc_out_at zc_s1 rfl)
        rw [Tσ_18, Nσ_18] at pσ26
        have t22 := zc_g1_2 hσ26 zc_s1
        rw [hi18_2] at pσ26
        have zv : zt_lv (σ 2) (σ 1 1) (σ 1 2) j18 = zt_lc r26 := by unfold zt_lv; rw [← pσ26.2.2]
        have zlb := zt_lc_b r26
        have zp : j18 + 1 < σ 3 2 → zx_p2 (σ 3 2 - 1 - j18) = 2 * zx_p2 (σ 3 2 - 1 - (j18 + 1)) := fun h => by rw [show σ 3 2 - 1 - j18 = σ 3 2 - 1 - (j18 + 1) + 1 by omega]; exact zx_p2_s _ (by omega)
        have zp0 : j18 + 1 = σ 3 2 → zx_p2 (σ 3 2 - 1 - j18) = 1 := fun h => by rw [show σ 3 2 - 1 - j18 = 0 by omega]; exact zx_p2_0
        refine zr_istore_n (pc := 29) hV [some (ZR 132), some (ZR sp), some (ZI x2_18), some (ZI r26), none] dX4_readLook_29 rfl (by decide) rfl rfl ?_
        refine zr_iload_n (pc := 30) hV dX4_readLook_30 rfl rfl ?_
        refine zr_callSp (pc := 31) hV [ZI r26] (st := []) (c_X4_fieldNamed_2 (σ := σ26) r26 (by omega)) dX4_readLook_31 mX4_80 (by decide) (Nat.le_of_ble_eq_true rfl) (Nat.le_refl _) (fun r31 hr31 pr31 => ?_)
        refine zr_istore (pc := 34) hV [some (ZR 132), some (ZR sp), some (ZI x2_18), some (ZI r26), some (ZI r31)] dX4_readLook_34 (by decide) rfl rfl ?_
        refine zr_iload (pc := 36) hV dX4_readLook_36 rfl ?_
        refine zr_if_lt (pc := 38) hV 55 dX4_readLook_38 (by decide) (by omega) (fun c23 => ?_) (fun c23 => ?_)
        · show V 55 [some (ZR 132), some (ZR sp), some (ZI x2_18), some (ZI r26), some (ZI r31)] [] 284 σ26
          refine zr_iload_n (pc := 55) hV dX4_readLook_55 rfl rfl ?_
          refine zr_bipush (pc := 56) hV 48 dX4_readLook_56 (by decide) ?_
          refine zr_icmp_eq (pc := 58) hV 67 dX4_readLook_58 (by decide) (by omega) ⟨by decide, by decide⟩ (fun c24 => ?_) (fun c24 => ?_)
          · show V 67 [some (ZR 132), some (ZR sp), some (ZI x2_18), some (ZI r26), some (ZI r31)] [] 284 σ26
            have z2b : 0 ≤ σ_18 sp 2 ∧ σ_18 sp 2 ≤ 2147483647 := by have := zc_g4_2 hσ_18 ksp; omega
            refine zr_aload_n (pc := 67) hV dX4_readLook_67 rfl rfl ?_
            refine zr_dup (pc := 68) hV dX4_readLook_68 (fun _ => rfl) ?_
            refine zr_getI (pc := 69) hV 1 dX4_readLook_69 fX4_86 rfl rfl (zc_k4 ksp) (zc_pos ksp rfl) ?_
            have t25 := zc_g4_1 hσ26 ksp
            have t26 : σ26 sp 1 = σ_18 sp 1 := hfσ26 _ _ (zc_out_at ksp rfl)
            refine zr_iload_n (pc := 72) hV dX4_readLook_72 rfl rfl ?_
            refine zr_ior (pc := 73) hV dX4_readLook_73 ?_
            have t27 := zq_or_in (σ26 sp 1) x2_18
            refine zr_putI (pc := 74) hV 1 dX4_readLook_74 fX4_86 rfl rfl rfl (zc_k4 ksp) (zc_pos ksp rfl) (fun σ74 eσ74 => ?_)
            have hσ74 : zc_T σ74 := zc_u4_1 eσ74 hσ26 ksp (by omega)
            have hFσ74 := zc_Fw eσ74 ksp rfl hFσ26
            have hOσ74 := zd_Ow eσ74 (by omega) hOσ26
            refine zr_aload_n (pc := 77) hV dX4_readLook_77 rfl rfl ?_
            refine zr_dup (pc := 78) hV dX4_readLook_78 (fun _ => rfl) ?_
            refine zr_getI (pc := 79) hV 2 dX4_readLook_79 fX4_89 rfl rfl (zc_k4 ksp) (zc_pos ksp rfl) ?_
            have t28 := zc_g4_2 hσ74 ksp
            have t29 : σ74 sp 2 = σ26 sp 2 := by rw [eσ74]; exact zq_up_ne (by omega)
            have t30 : σ26 sp 2 = σ_18 sp 2 := hfσ26 _ _ (zc_out_at ksp rfl)
            refine zr_iload_n (pc := 82) hV dX4_readLook_82 rfl rfl ?_
            refine zr_bipush (pc := 83) hV 49 dX4_readLook_83 (by decide) ?_
            refine zr_icmp_ne (pc := 85) hV 92 dX4_readLook_85 (by decide) (by omega) ⟨by decide, by decide⟩ (fun c31 => ?_) (fun c31 => ?_)
            · show V 92 [some (ZR 132), some (ZR sp), some (ZI x2_18), some (ZI r26), some (ZI r31)] [ZI (σ74 sp 2), ZR sp] 284 σ74
              refine zr_iconst (pc := 92) hV 0 dX4_readLook_92 rfl ?_
              show V 93 [some (ZR 132), some (ZR sp), some (ZI x2_18), some (ZI r26), some (ZI r31)] [ZI 0, ZI (σ74 sp 2), ZR sp] 284 σ74
              refine zr_ior (pc := 93) hV dX4_readLook_93 ?_
              have t32 := zq_or_b (x := σ74 sp 2) (y := 0) 12 4096 (by decide) (by decide) (by omega) (by omega)
              refine zr_putI (pc := 94) hV 2 dX4_readLook_94 fX4_89 rfl rfl rfl (zc_k4 ksp) (zc_pos ksp rfl) (fun σ94 eσ94 => ?_)
              have hσ94 : zc_T σ94 := zc_u4_2 eσ94 hσ74 ksp (by omega)
              have hFσ94 := zc_Fw eσ94 ksp rfl hFσ74
              have hOσ94 := zd_Ow eσ94 (by omega) hOσ74
              refine zr_goto (pc := 97) hV 102 dX4_readLook_97 (by decide) ?_
              show V 102 [some (ZR 132), some (ZR sp), some (ZI x2_18), some (ZI r26), some (ZI r31)] [] 284 σ94
              have zi := zt_nx_in (t := σ 2) (n := σ 1 1) (a := zt_lp (σ 2) (σ 1 1) (σ 1 2) j18) (by omega)
              refine zr_aload_n (pc := 102) hV dX4_readLook_102 rfl rfl ?_
              refine zr_getR (pc := 103) hV 0 1 dX4_readLook_103 fX4_15 rfl rfl (zc_k132 zc_s132) (zc_pos zc_s132 rfl) (zc_g132_0 hσ94 zc_s132) (by decide) ?_
              refine zr_callVv (pc := 106) hV [] (st := []) (c_X8_pass_2 (σ := σ94) hσ94) dX4_readLook_106 mX4_92 (zc_k1 zc_s1) (zc_pos zc_s1 rfl) (by decide) (Nat.le_of_ble_eq_true rfl) (Nat.le_refl _) (fun σ106 pσ106 => ?_)
              obtain ⟨hσ106, hfσ106, pσ106⟩ := pσ106
              have hFσ106 := zc_Fc hfσ106 rfl hFσ94
              have hOσ106 := zd_Oc hfσ106 rfl hOσ94
              have t33 := zc_g1_1 hσ94 zc_s1
              have t34 : σ94 1 1 = σ74 1 1 := by rw [eσ94]; exact zq_up_ne (zc_dk zc_s1 ksp rfl)
              have t35 : σ74 1 1 = σ26 1 1 := by rw [eσ74]; exact zq_up_ne (zc_dk zc_s1 ksp rfl)
              have t36 : σ26 1 1 = σ_18 1 1 := hfσ26 _ _ (zc_out_at zc_s1 rfl)
              have t37 : σ_18 1 1 = σ 1 1 := hFσ_18 _ _ (zc_out_at zc_s1 rfl)
              have t38 := zc_g1_2 hσ94 zc_s1
              have t39 : σ94 1 2 = σ74 1 2 := by rw [eσ94]; exact zq_up_ne (zc_dk zc_s1 ksp rfl)
              have t40 : σ74 1 2 = σ26 1 2 := by rw [eσ74]; exact zq_up_ne (zc_dk zc_s1 ksp rfl)
              have t41 := zc_g1_2 hσ106 zc_s1
              refine zr_iload_n (pc := 109) hV dX4_readLook_109 rfl rfl ?_
              refine zr_iconst (pc := 110) hV 1 dX4_readLook_110 rfl ?_
              refine zr_ishr (pc := 111) hV dX4_readLook_111 ?_
              have t42 : zq_shr x2_18 1 = x2_18 / 2 := zq_shr_c (x := x2_18) 1 2 (by decide) (by decide) (by omega)
              refine zr_istore_n (pc := 112) hV [some (ZR 132), some (ZR sp), some (ZI (zq_shr x2_18 1)), some (ZI r26), some (ZI r31)] dX4_readLook_112 rfl (by decide) rfl rfl ?_
              refine zr_goto (pc := 113) hV 18 dX4_readLook_113 (by decide) ?_
              have t43 := zc_g1_2 hσ106 zc_s1
              have t44 := zc_g4_1 hσ106 ksp
              have t45 : σ106 sp 1 = σ94 sp 1 := hfσ106 _ _ (zc_out_at ksp rfl)
              have t46 : σ94 sp 1 = σ74 sp 1 := by rw [eσ94]; exact zq_up_ne (by omega)
              have t47 : σ74 sp 1 = zq_or (σ26 sp 1) x2_18 := by rw [eσ74]; exact zq_up_same _ _ _ _
              have t48 := zc_g4_2 hσ106 ksp
              have t49 : σ106 sp 2 = σ94 sp 2 := hfσ106 _ _ (zc_out_at ksp rfl)
              have t50 : σ94 sp 2 = zq_or (σ74 sp 2) 0 := by rw [eσ94]; exact zq_up_same _ _ _ _
              refine zr_sub (pc := 18) hV [some (ZR 132), some (ZR sp), some (ZI (zq_shr x2_18 1)), none, none] (⟨rfl, rfl, rfl, trivial⟩) ?_
              exact ih18 (zq_shr x2_18 1) σ106 (j18 + 1) (by omega) hσ106 hFσ106 hOσ106 (by omega) (by refine ⟨fun h => ?_, fun h => ?_⟩ <;> omega) (by rw [zt_lp_s _ _ _ (by omega)]; omega) (by rw [← zt_lr_y (by omega) (by omega)]; exact hi18_3) (by rw [hfσ106 sp _ (zc_out_at ksp rfl), eσ94, zq_up_ne (by omega), eσ74, zq_up_same, hfσ26 sp _ (zc_out_at ksp rfl)]; exact zt_or_mk (by omega) (by omega) (by omega) hi18_4 (by omega) (decide_eq_true (by omega))) (by rw [hfσ106 sp _ (zc_out_at ksp rfl), eσ94, zq_up_same, eσ74, zq_up_ne (by omega), hfσ26 sp _ (zc_out_at ksp rfl), zt_or_0 z2b]; exact zt_no_mk (by omega) (by omega) hi18_5 (fun q => absurd (of_decide_eq_true q) (by omega))) (fun f h0 h3 => by rw [hfσ106 (sp + 1) _ (zc_out_ar (zc_p4_1 ksp) rfl), eσ94, zq_up_ne (by omega), eσ74, zq_up_ne (by omega), hfσ26 (sp + 1) _ (zc_out_ar (zc_p4_1 ksp) rfl)]; exact zt_no_mk (by omega) (by omega) (hi18_6 f h0 h3) (fun q => absurd (of_decide_eq_true q) (by omega))) (by omega)
            · exfalso; omega
          · show V 61 [some (ZR 132), some (ZR sp), some (ZI x2_18), some (ZI r26), some (ZI r31)] [] 284 σ26
            refine zr_iload_n (pc := 61) hV dX4_readLook_61 rfl rfl ?_
            refine zr_bipush (pc := 62) hV 49 dX4_readLook_62 (by decide) ?_
            refine zr_icmp_ne (pc := 64) hV 100 dX4_readLook_64 (by decide) (by omega) ⟨by decide, by decide⟩ (fun c51 => ?_) (fun c51 => ?_)
            · show V 100 [some (ZR 132), some (ZR sp), some (ZI x2_18), some (ZI r26), some (ZI r31)] [] 284 σ26
              have zlr : (zt_lr (σ 2) (σ 1 1) (σ 1 2) (σ 3 2) 0) = j18 := by rw [← hi18_3]; exact zt_lr_n (by omega)
              refine zr_iconst (pc := 100) hV 0 dX4_readLook_100 rfl ?_
              have t52 := zc_g4_1 hσ26 ksp
              have t53 : σ26 sp 1 = σ_18 sp 1 := hfσ26 _ _ (zc_out_at ksp rfl)
              have t54 := zc_g4_2 hσ26 ksp
              have t55 : σ26 sp 2 = σ_18 sp 2 := hfσ26 _ _ (zc_out_at ksp rfl)
              have t56 := zc_g1_2 hσ26 zc_s1
              exact zr_zret (pc := 101) hV dX4_readLook_101 rfl rfl (by omega) ⟨_, rfl, ⟨by decide, by decide⟩, hσ26, hFσ26, hOσ26, ⟨by omega, (by rw [zlr]; omega)⟩, (show ((0 : Int) = 1 → (zt_lr (σ 2) (σ 1 1) (σ 1 2) (σ 3 2) 0) = σ 3 2 ∧ zt_fok (σ26 (sp + 1)) (σ 3 1) (σ 3 0)) ∧ ((0 : Int) = 0 → (zt_lr (σ 2) (σ 1 1) (σ 1 2) (σ 3 2) 0) = σ 3 2 → ¬ zt_fok (σ26 (sp + 1)) (σ 3 1) (σ 3 0)) ∧ ((zt_lr (σ 2) (σ 1 1) (σ 1 2) (σ 3 2) 0) = σ 3 2 → σ26 sp 1 = zt_mk (fun i => decide (zt_lv (σ 2) (σ 1 1) (σ 1 2) i ≤ 1)) (σ 3 2) ∧ σ26 sp 2 = zt_mk (fun i => decide (zt_lv (σ 2) (σ 1 1) (σ 1 2) i = 1)) (σ 3 2) ∧ ∀ f, 0 ≤ f → f ≤ 3 → σ26 (sp + 1) f = zt_mk (fun i => decide (zt_lv (σ 2) (σ 1 1) (σ 1 2) i = 2 + f)) (σ 3 2)) from ⟨fun h => absurd h (by omega), fun _ h => absurd h (by omega), fun h => absurd h (by omega)⟩)⟩
            · show V 67 [some (ZR 132), some (ZR sp), some (ZI x2_18), some (ZI r26), some (ZI r31)] [] 284 σ26
              have z2b : 0 ≤ σ_18 sp 2 ∧ σ_18 sp 2 ≤ 2147483647 := by have := zc_g4_2 hσ_18 ksp; omega
              refine zr_aload_n (pc := 67) hV dX4_readLook_67 rfl rfl ?_
              refine zr_dup (pc := 68) hV dX4_readLook_68 (fun _ => rfl) ?_
              refine zr_getI (pc := 69) hV 1 dX4_readLook_69 fX4_86 rfl rfl (zc_k4 ksp) (zc_pos ksp rfl) ?_
              have t57 := zc_g4_1 hσ26 ksp
              have t58 : σ26 sp 1 = σ_18 sp 1 := hfσ26 _ _ (zc_out_at ksp rfl)
              refine zr_iload_n (pc := 72) hV dX4_readLook_72 rfl rfl ?_
              refine zr_ior (pc := 73) hV dX4_readLook_73 ?_
              have t59 := zq_or_in (σ26 sp 1) x2_18
              refine zr_putI (pc := 74) hV 1 dX4_readLook_74 fX4_86 rfl rfl rfl (zc_k4 ksp) (zc_pos ksp rfl) (fun σ74 eσ74 => ?_)
              have hσ74 : zc_T σ74 := zc_u4_1 eσ74 hσ26 ksp (by omega)
              have hFσ74 := zc_Fw eσ74 ksp rfl hFσ26
              have hOσ74 := zd_Ow eσ74 (by omega) hOσ26
              refine zr_aload_n (pc := 77) hV dX4_readLook_77 rfl rfl ?_
              refine zr_dup (pc := 78) hV dX4_readLook_78 (fun _ => rfl) ?_
              refine zr_getI (pc := 79) hV 2 dX4_readLook_79 fX4_89 rfl rfl (zc_k4 ksp) (zc_pos ksp rfl) ?_
              have t60 := zc_g4_2 hσ74 ksp
              have t61 : σ74 sp 2 = σ26 sp 2 := by rw [eσ74]; exact zq_up_ne (by omega)
              have t62 : σ26 sp 2 = σ_18 sp 2 := hfσ26 _ _ (zc_out_at ksp rfl)
              refine zr_iload_n (pc := 82) hV dX4_readLook_82 rfl rfl ?_
              refine zr_bipush (pc := 83) hV 49 dX4_readLook_83 (by decide) ?_
              refine zr_icmp_ne (pc := 85) hV 92 dX4_readLook_85 (by decide) (by omega) ⟨by decide, by decide⟩ (fun c63 => ?_) (fun c63 => ?_)
              · exfalso; omega
              · show V 88 [some (ZR 132), some (ZR sp), some (ZI x2_18), some (ZI r26), some (ZI r31)] [ZI (σ74 sp 2), ZR sp] 284 σ74
                refine zr_iload_n (pc := 88) hV dX4_readLook_88 rfl rfl ?_
                refine zr_goto (pc := 89) hV 93 dX4_readLook_89 (by decide) ?_
                show V 93 [some (ZR 132), some (ZR sp), some (ZI x2_18), some (ZI r26), some (ZI r31)] [ZI x2_18, ZI (σ74 sp 2), ZR sp] 284 σ74
                refine zr_ior (pc := 93) hV dX4_readLook_93 ?_
                have t64 := zq_or_b (x := σ74 sp 2) (y := x2_18) 12 4096 (by decide) (by decide) (by omega) (by omega)
                refine zr_putI (pc := 94) hV 2 dX4_readLook_94 fX4_89 rfl rfl rfl (zc_k4 ksp) (zc_pos ksp rfl) (fun σ94 eσ94 => ?_)
                have hσ94 : zc_T σ94 := zc_u4_2 eσ94 hσ74 ksp (by omega)
                have hFσ94 := zc_Fw eσ94 ksp rfl hFσ74
                have hOσ94 := zd_Ow eσ94 (by omega) hOσ74
                refine zr_goto (pc := 97) hV 102 dX4_readLook_97 (by decide) ?_
                show V 102 [some (ZR 132), some (ZR sp), some (ZI x2_18), some (ZI r26), some (ZI r31)] [] 284 σ94
                have zi := zt_nx_in (t := σ 2) (n := σ 1 1) (a := zt_lp (σ 2) (σ 1 1) (σ 1 2) j18) (by omega)
                refine zr_aload_n (pc := 102) hV dX4_readLook_102 rfl rfl ?_
                refine zr_getR (pc := 103) hV 0 1 dX4_readLook_103 fX4_15 rfl rfl (zc_k132 zc_s132) (zc_pos zc_s132 rfl) (zc_g132_0 hσ94 zc_s132) (by decide) ?_
                refine zr_callVv (pc := 106) hV [] (st := []) (c_X8_pass_2 (σ := σ94) hσ94) dX4_readLook_106 mX4_92 (zc_k1 zc_s1) (zc_pos zc_s1 rfl) (by decide) (Nat.le_of_ble_eq_true rfl) (Nat.le_refl _) (fun σ106 pσ106 => ?_)
                obtain ⟨hσ106, hfσ106, pσ106⟩ := pσ106
                have hFσ106 := zc_Fc hfσ106 rfl hFσ94
                have hOσ106 := zd_Oc hfσ106 rfl hOσ94
                have t65 := zc_g1_1 hσ94 zc_s1
                have t66 : σ94 1 1 = σ74 1 1 := by rw [eσ94]; exact zq_up_ne (zc_dk zc_s1 ksp rfl)
                have t67 : σ74 1 1 = σ26 1 1 := by rw [eσ74]; exact zq_up_ne (zc_dk zc_s1 ksp rfl)
                have t68 : σ26 1 1 = σ_18 1 1 := hfσ26 _ _ (zc_out_at zc_s1 rfl)
                have t69 : σ_18 1 1 = σ 1 1 := hFσ_18 _ _ (zc_out_at zc_s1 rfl)
                have t70 := zc_g1_2 hσ94 zc_s1
                have t71 : σ94 1 2 = σ74 1 2 := by rw [eσ94]; exact zq_up_ne (zc_dk zc_s1 ksp rfl)
                have t72 : σ74 1 2 = σ26 1 2 := by rw [eσ74]; exact zq_up_ne (zc_dk zc_s1 ksp rfl)
                have t73 := zc_g1_2 hσ106 zc_s1
                refine zr_iload_n (pc := 109) hV dX4_readLook_109 rfl rfl ?_
                refine zr_iconst (pc := 110) hV 1 dX4_readLook_110 rfl ?_
                refine zr_ishr (pc := 111) hV dX4_readLook_111 ?_
                have t74 : zq_shr x2_18 1 = x2_18 / 2 := zq_shr_c (x := x2_18) 1 2 (by decide) (by decide) (by omega)
                refine zr_istore_n (pc := 112) hV [some (ZR 132), some (ZR sp), some (ZI (zq_shr x2_18 1)), some (ZI r26), some (ZI r31)] dX4_readLook_112 rfl (by decide) rfl rfl ?_
                refine zr_goto (pc := 113) hV 18 dX4_readLook_113 (by decide) ?_
                have t75 := zc_g1_2 hσ106 zc_s1
                have t76 := zc_g4_1 hσ106 ksp
                have t77 : σ106 sp 1 = σ94 sp 1 := hfσ106 _ _ (zc_out_at ksp rfl)
                have t78 : σ94 sp 1 = σ74 sp 1 := by rw [eσ94]; exact zq_up_ne (by omega)
                have t79 : σ74 sp 1 = zq_or (σ26 sp 1) x2_18 := by rw [eσ74]; exact zq_up_same _ _ _ _
                have t80 := zc_g4_2 hσ106 ksp
                have t81 : σ106 sp 2 = σ94 sp 2 := hfσ106 _ _ (zc_out_at ksp rfl)
                have t82 : σ94 sp 2 = zq_or (σ74 sp 2) x2_18 := by rw [eσ94]; exact zq_up_same _ _ _ _
                refine zr_sub (pc := 18) hV [some (ZR 132), some (ZR sp), some (ZI (zq_shr x2_18 1)), none, none] (⟨rfl, rfl, rfl, trivial⟩) ?_
                exact ih18 (zq_shr x2_18 1) σ106 (j18 + 1) (by omega) hσ106 hFσ106 hOσ106 (by omega) (by refine ⟨fun h => ?_, fun h => ?_⟩ <;> omega) (by rw [zt_lp_s _ _ _ (by omega)]; omega) (by rw [← zt_lr_y (by omega) (by omega)]; exact hi18_3) (by rw [hfσ106 sp _ (zc_out_at ksp rfl), eσ94, zq_up_ne (by omega), eσ74, zq_up_same, hfσ26 sp _ (zc_out_at ksp rfl)]; exact zt_or_mk (by omega) (by omega) (by omega) hi18_4 (by omega) (decide_eq_true (by omega))) (by rw [hfσ106 sp _ (zc_out_at ksp rfl), eσ94, zq_up_same, eσ74, zq_up_ne (by omega), hfσ26 sp _ (zc_out_at ksp rfl)]; exact zt_or_mk (by omega) (by omega) (by omega) hi18_5 (by omega) (decide_eq_true (by omega))) (fun f h0 h3 => by rw [hfσ106 (sp + 1) _ (zc_out_ar (zc_p4_1 ksp) rfl), eσ94, zq_up_ne (by omega), eσ74, zq_up_ne (by omega), hfσ26 (sp + 1) _ (zc_out_ar (zc_p4_1 ksp) rfl)]; exact zt_no_mk (by omega) (by omega) (hi18_6 f h0 h3) (fun q => absurd (of_decide_eq_true q) (by omega))) (by omega)
        · show V 41 [some (ZR 132), some (ZR sp), some (ZI x2_18), some (ZI r26), some (ZI r31)] [] 284 σ26
          refine zr_aload_n (pc := 41) hV dX4_readLook_41 rfl rfl ?_
          refine zr_getR (pc := 42) hV 3 (sp + 1) dX4_readLook_42 fX4_83 rfl rfl (zc_k4 ksp) (zc_pos ksp rfl) (zc_g4_3 hσ26 ksp) (zc_pos (zc_p4_1 ksp) rfl).1 ?_
          refine zr_iload (pc := 45) hV dX4_readLook_45 rfl ?_
          refine zr_dup2 (pc := 47) hV dX4_readLook_47 (fun _ => rfl) (fun _ => rfl) ?_
          refine zr_iald (pc := 48) hV dX4_readLook_48 (zc_k5 (zc_p4_1 ksp)) (zc_pos (zc_p4_1 ksp) rfl) rfl (by omega) ?_
          have t83 := zc_ga5 hσ26 (zc_p4_1 ksp) r31
          have t84 : σ26 (sp + 1) r31 = σ_18 (sp + 1) r31 := hfσ26 _ _ (zc_out_ar (zc_p4_1 ksp) rfl)
          refine zr_iload_n (pc := 49) hV dX4_readLook_49 rfl rfl ?_
          refine zr_ior (pc := 50) hV dX4_readLook_50 ?_
          have t85 := zq_or_in (σ26 (sp + 1) r31) x2_18
          refine zr_iast (pc := 51) hV dX4_readLook_51 (zc_k5 (zc_p4_1 ksp)) (zc_pos (zc_p4_1 ksp) rfl) rfl (by omega) (fun σ51 eσ51 => ?_)
          have hσ51 : zc_T σ51 := zc_ua5 eσ51 hσ26 (zc_p4_1 ksp) (by omega)
          have hFσ51 := zc_Fa eσ51 (zc_p4_1 ksp) rfl hFσ26
          have hOσ51 := zd_Ow eσ51 (by omega) hOσ26
          refine zr_goto (pc := 52) hV 102 dX4_readLook_52 (by decide) ?_
          show V 102 [some (ZR 132), some (ZR sp), some (ZI x2_18), some (ZI r26), some (ZI r31)] [] 284 σ51
          have zi := zt_nx_in (t := σ 2) (n := σ 1 1) (a := zt_lp (σ 2) (σ 1 1) (σ 1 2) j18) (by omega)
          refine zr_aload_n (pc := 102) hV dX4_readLook_102 rfl rfl ?_
          refine zr_getR (pc := 103) hV 0 1 dX4_readLook_103 fX4_15 rfl rfl (zc_k132 zc_s132) (zc_pos zc_s132 rfl) (zc_g132_0 hσ51 zc_s132) (by decide) ?_
          refine zr_callVv (pc := 106) hV [] (st := []) (c_X8_pass_2 (σ := σ51) hσ51) dX4_readLook_106 mX4_92 (zc_k1 zc_s1) (zc_pos zc_s1 rfl) (by decide) (Nat.le_of_ble_eq_true rfl) (Nat.le_refl _) (fun σ106 pσ106 => ?_)
          obtain ⟨hσ106, hfσ106, pσ106⟩ := pσ106
          have hFσ106 := zc_Fc hfσ106 rfl hFσ51
          have hOσ106 := zd_Oc hfσ106 rfl hOσ51
          have t86 := zc_g1_1 hσ51 zc_s1
          have t87 : σ51 1 1 = σ26 1 1 := by rw [eσ51]; exact zq_up_ne (zc_dk zc_s1 (zc_p4_1 ksp) rfl)
          have t88 : σ26 1 1 = σ_18 1 1 := hfσ26 _ _ (zc_out_at zc_s1 rfl)
          have t89 : σ_18 1 1 = σ 1 1 := hFσ_18 _ _ (zc_out_at zc_s1 rfl)
          have t90 := zc_g1_2 hσ51 zc_s1
          have t91 : σ51 1 2 = σ26 1 2 := by rw [eσ51]; exact zq_up_ne (zc_dk zc_s1 (zc_p4_1 ksp) rfl)
          have t92 := zc_g1_2 hσ106 zc_s1
          refine zr_iload_n (pc := 109) hV dX4_readLook_109 rfl rfl ?_
          refine zr_iconst (pc := 110) hV 1 dX4_readLook_110 rfl ?_
          refine zr_ishr (pc := 111) hV dX4_readLook_111 ?_
          have t93 : zq_shr x2_18 1 = x2_18 / 2 := zq_shr_c (x := x2_18) 1 2 (by decide) (by decide) (by omega)
          refine zr_istore_n (pc := 112) hV [some (ZR 132), some (ZR sp), some (ZI (zq_shr x2_18 1)), some (ZI r26), some (ZI r31)] dX4_readLook_112 rfl (by decide) rfl rfl ?_
          refine zr_goto (pc := 113) hV 18 dX4_readLook_113 (by decide) ?_
          have t94 := zc_g1_2 hσ106 zc_s1
          have t95 := zc_g4_1 hσ106 ksp
          have t96 : σ106 sp 1 = σ51 sp 1 := hfσ106 _ _ (zc_out_at ksp rfl)
          have t97 : σ51 sp 1 = σ26 sp 1 := by rw [eσ51]; exact zq_up_ne (zc_dk ksp (zc_p4_1 ksp) rfl)
          have t98 : σ26 sp 1 = σ_18 sp 1 := hfσ26 _ _ (zc_out_at ksp rfl)
          have t99 := zc_g4_2 hσ106 ksp
          have t100 : σ106 sp 2 = σ51 sp 2 := hfσ106 _ _ (zc_out_at ksp rfl)
          have t101 : σ51 sp 2 = σ26 sp 2 := by rw [eσ51]; exact zq_up_ne (zc_dk ksp (zc_p4_1 ksp) rfl)
          have t102 : σ26 sp 2 = σ_18 sp 2 := hfσ26 _ _ (zc_out_at ksp rfl)
          refine zr_sub (pc := 18) hV [some (ZR 132), some (ZR sp), some (ZI (zq_shr x2_18 1)), none, none] (⟨rfl, rfl, rfl, trivial⟩) ?_
          exact ih18 (zq_shr x2_18 1) σ106 (j18 + 1) (by omega) hσ106 hFσ106 hOσ106 (by omega) (by refine ⟨fun h => ?_, fun h => ?_⟩ <;> omega) (by rw [zt_lp_s _ _ _ (by omega)]; omega) (by rw [← zt_lr_y (by omega) (by omega)]; exact hi18_3) (by rw [hfσ106 sp _ (zc_out_at ksp rfl), eσ51, zq_up_ne (by omega), hfσ26 sp _ (zc_out_at ksp rfl)]; exact zt_no_mk (by omega) (by omega) hi18_4 (fun q => absurd (of_decide_eq_true q) (by omega))) (by rw [hfσ106 sp _ (zc_out_at ksp rfl), eσ51, zq_up_ne (by omega), hfσ26 sp _ (zc_out_at ksp rfl)]; exact zt_no_mk (by omega) (by omega) hi18_5 (fun q => absurd (of_decide_eq_true q) (by omega))) (fun f h0 h3 => if hc : f = r31 then (by rw [hc, hfσ106 (sp + 1) _ (zc_out_ar (zc_p4_1 ksp) rfl), eσ51, zq_up_same, hfσ26 (sp + 1) _ (zc_out_ar (zc_p4_1 ksp) rfl)]; exact zt_or_mk (by omega) (by omega) (by omega) (hi18_6 r31 (by omega) (by omega)) (by omega) (decide_eq_true (by omega))) else (by rw [hfσ106 (sp + 1) _ (zc_out_ar (zc_p4_1 ksp) rfl), eσ51, zq_up_ne (by omega), hfσ26 (sp + 1) _ (zc_out_ar (zc_p4_1 ksp) rfl)]; exact zt_no_mk (by omega) (by omega) (hi18_6 f h0 h3) (fun q => absurd (of_decide_eq_true q) (by omega)))) (by omega)
  have t103 := zc_g1_2 hσ zc_s1
  have t104 := zc_g4_1 hσ ksp
  have t105 := zc_g4_2 hσ ksp
  exact L18 ((zq_shr r12 1) + 1 : Int).toNat (zq_shr r12 1) σ 0 (by omega) hσ hFσ hOσ (by have := zc_g3_2 hσ zc_s3; omega) (by have := zc_g3_2 hσ zc_s3; refine ⟨fun h => ?_, fun h => ?_⟩ <;> omega) (by rw [zt_lp_0]) rfl (by rw [zt_mk_0, Int.zero_mul]; exact q0.1) (by rw [zt_mk_0, Int.zero_mul]; exact q0.2) (fun f h0 h3 => by rw [zt_mk_0, Int.zero_mul]; exact q1 f h0 h3) (by omega)
