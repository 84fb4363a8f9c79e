set_option maxHeartbeats 800000 in
theorem c_X4_readOrder_2 {σ : zq_S} (hσ : zc_T σ) (sp : Int) (esp : σ 3 5 = sp) (ksp : zc_kd sp = 4)  : zq_C zc_w yX4_readOrder cX4_readOrder 1 (some .boolean) 6 131 284 284 [ZR 132] σ (zq_pi (fun r τ => zc_T τ ∧ zc_Fr [(1, 2), (1, 3), (4, 0), (4, 1), (4, 2), (4, 4), (4, 5), (4, 6), (4, 11), (4, 12), (4, 13), (4, 14), (4, 15), (4, 16), (5, -1), (6, -1), (7, -1), (8, -1), (9, -1)] σ τ ∧ zd_Own sp σ τ ∧ ((0 ≤ r ∧ r ≤ 1) ∧ 0 ≤ r) ∧ zq_hid ((r = 1 → ¬ (∃ i, 0 ≤ i ∧ i < τ 3 3 ∧ τ (τ 10 i) 0 = zt_na (σ 2) (zt_z0 (σ 2) (σ 1 1)) (zt_n0 (σ 2) (σ 1 1))) ∧ zt_oK (σ 2) (σ 1 1) (σ 3 2) (σ 3 1) (σ 3 0) ∧ zt_cC τ sp (σ 2) (σ 1 1) (σ 3 2)) ∧ (r = 0 → ((∃ i, 0 ≤ i ∧ i < τ 3 3 ∧ τ (τ 10 i) 0 = zt_na (σ 2) (zt_z0 (σ 2) (σ 1 1)) (zt_n0 (σ 2) (σ 1 1))) → τ 1 2 = (zt_z0 (σ 2) (σ 1 1))) ∧ (¬ (∃ i, 0 ≤ i ∧ i < τ 3 3 ∧ τ (τ 10 i) 0 = zt_na (σ 2) (zt_z0 (σ 2) (σ 1 1)) (zt_n0 (σ 2) (σ 1 1))) → ¬ zt_oK (σ 2) (σ 1 1) (σ 3 2) (σ 3 1) (σ 3 0) ∧ τ 1 2 = zt_oF (σ 2) (σ 1 1) (σ 3 2) (σ 3 1) (σ 3 0)))))) := by
  refine zq_C_of (by decide) (Nat.le_refl _) (Nat.le_of_ble_eq_true rfl) [some (ZR 132)] rfl (fun V hV => ?_)
  have hFσ := zc_Fr_rf [(1, 2), (1, 3), (4, 0), (4, 1), (4, 2), (4, 4), (4, 5), (4, 6), (4, 11), (4, 12), (4, 13), (4, 14), (4, 15), (4, 16), (5, -1), (6, -1), (7, -1), (8, -1), (9, -1)] σ
  have hOσ := zd_Own_rf sp σ
  have posp := zc_pos ksp rfl
  show V 0 [some (ZR 132)] [] 284 σ
  refine zr_aload_n (pc := 0) hV dX4_readOrder_0 rfl rfl ?_
  refine zr_callVi (pc := 1) hV [] (st := []) (c_X4_readNewName_2 (σ := σ) hσ sp (by omega) ksp) dX4_readOrder_1 mX4_23 (zc_k132 zc_s132) (zc_pos zc_s132 rfl) (by decide) (Nat.le_of_ble_eq_true rfl) (Nat.le_refl _) (fun r1 σ1 hr1 pσ1 => ?_)
  obtain ⟨hσ1, hfσ1, hoσ1, pσ1, wσ1⟩ := pσ1
  have hFσ1 := zc_Fc hfσ1 rfl hFσ
  have hOσ1 := zd_Oo hoσ1 hOσ
  have t1 := zc_g1_1 hσ zc_s1
  have t2 := zc_g1_2 hσ1 zc_s1
  have t3 := zc_g4_1 hσ1 ksp
  have t4 := zc_g4_11 hσ1 ksp
  have t5 := zc_g4_12 hσ1 ksp
  have t6 := zc_g4_13 hσ1 ksp
  have t7 := zc_g4_14 hσ1 ksp
  have t8 := zc_g4_15 hσ1 ksp
  have t9 := zc_g4_16 hσ1 ksp
  have t10 := zc_g4_2 hσ1 ksp
  have t11 := zc_g4_4 hσ1 ksp
  have t12 := zc_g4_5 hσ1 ksp
  have t13 := zc_g4_6 hσ1 ksp
  refine zr_if_eq (pc := 4) hV 86 dX4_readOrder_4 (by decide) (by omega) (fun c14 => ?_) (fun c14 => ?_)
  · show V 86 [some (ZR 132)] [] 284 σ1
    refine zr_iconst (pc := 86) hV 0 dX4_readOrder_86 rfl ?_
    show V 87 [some (ZR 132)] [ZI 0] 284 σ1
    have t15 := zc_g1_2 hσ1 zc_s1
    have t16 := zc_g3_3 hσ1 zc_s3
    have t17 : σ1 3 3 = σ 3 3 := hfσ1 _ _ (zc_out_at zc_s3 rfl)
    exact zr_zret (pc := 87) hV dX4_readOrder_87 rfl rfl (by omega) ⟨_, rfl, ⟨by decide, by decide⟩, hσ1, hFσ1, hOσ1, (by omega), (show ((0 : Int) = 1 → ¬ (∃ i, 0 ≤ i ∧ i < σ1 3 3 ∧ σ1 (σ1 10 i) 0 = zt_na (σ 2) (zt_z0 (σ 2) (σ 1 1)) (zt_n0 (σ 2) (σ 1 1))) ∧ zt_oK (σ 2) (σ 1 1) (σ 3 2) (σ 3 1) (σ 3 0) ∧ zt_cC σ1 sp (σ 2) (σ 1 1) (σ 3 2)) ∧ ((0 : Int) = 0 → ((∃ i, 0 ≤ i ∧ i < σ1 3 3 ∧ σ1 (σ1 10 i) 0 = zt_na (σ 2) (zt_z0 (σ 2) (σ 1 1)) (zt_n0 (σ 2) (σ 1 1))) → σ1 1 2 = (zt_z0 (σ 2) (σ 1 1))) ∧ (¬ (∃ i, 0 ≤ i ∧ i < σ1 3 3 ∧ σ1 (σ1 10 i) 0 = zt_na (σ 2) (zt_z0 (σ 2) (σ 1 1)) (zt_n0 (σ 2) (σ 1 1))) → ¬ zt_oK (σ 2) (σ 1 1) (σ 3 2) (σ 3 1) (σ 3 0) ∧ σ1 1 2 = zt_oF (σ 2) (σ 1 1) (σ 3 2) (σ 3 1) (σ 3 0))) from ⟨fun h => absurd h (by omega), fun _ => ⟨fun _ => pσ1.2.2.1 (by omega), fun nd => by have z : (zt_n0 (σ 2) (σ 1 1)) = 0 := (wσ1.2.1 (by omega)).resolve_right nd; exact ⟨(zt_o1 z).1, by rw [(zt_o1 z).2]; exact pσ1.2.2.1 (by omega)⟩⟩⟩)⟩
  · show V 7 [some (ZR 132)] [] 284 σ1
    have y1 : (zt_n0 (σ 2) (σ 1 1)) ≠ 0 := (wσ1.1 (by omega)).2.1
    have a1 : σ1 1 2 = (zt_p0 (σ 2) (σ 1 1)) := pσ1.2.1 (by omega)
    refine zr_aload_n (pc := 7) hV dX4_readOrder_7 rfl rfl ?_
    refine zr_getR (pc := 8) hV 0 1 dX4_readOrder_8 fX4_15 rfl rfl (zc_k132 zc_s132) (zc_pos zc_s132 rfl) (zc_g132_0 hσ1 zc_s132) (by decide) ?_
    refine zr_bipush (pc := 11) hV 58 dX4_readOrder_11 (by decide) ?_
    refine zr_callVi (pc := 13) hV [ZI 58] (st := []) (c_X8_takes_2 (σ := σ1) hσ1 58 (by omega)) dX4_readOrder_13 mX4_27 (zc_k1 zc_s1) (zc_pos zc_s1 rfl) (by decide) (Nat.le_of_ble_eq_true rfl) (Nat.le_refl _) (fun r13 σ13 hr13 pσ13 => ?_)
    obtain ⟨hσ13, hfσ13, pσ13⟩ := pσ13
    have hFσ13 := zc_Fc hfσ13 rfl hFσ1
    have hOσ13 := zd_Oc hfσ13 rfl hOσ1
    have t18 := zc_g1_1 hσ1 zc_s1
    have t19 : σ1 1 1 = σ 1 1 := hfσ1 _ _ (zc_out_at zc_s1 rfl)
    have t20 := zc_g1_2 hσ1 zc_s1
    have Tσ1 : σ1 2 = σ 2 := funext (fun i => hFσ1 2 i (zc_out_ar zc_s2 rfl))
    have Nσ1 : σ1 1 1 = σ 1 1 := hFσ1 1 1 (zc_out_at zc_s1 rfl)
    rw [Tσ1, Nσ1] at pσ13
    have t21 := zc_g1_2 hσ13 zc_s1
    rw [a1] at pσ13
    refine zr_if_eq (pc := 16) hV 86 dX4_readOrder_16 (by decide) (by omega) (fun c22 => ?_) (fun c22 => ?_)
    · show V 86 [some (ZR 132)] [] 284 σ13
      refine zr_iconst (pc := 86) hV 0 dX4_readOrder_86 rfl ?_
      show V 87 [some (ZR 132)] [ZI 0] 284 σ13
      have t23 := zc_g1_2 hσ13 zc_s1
      have t24 := zc_g3_3 hσ13 zc_s3
      have t25 : σ13 3 3 = σ1 3 3 := hfσ13 _ _ (zc_out_at zc_s3 rfl)
      have t26 : σ1 3 3 = σ 3 3 := hfσ1 _ _ (zc_out_at zc_s3 rfl)
      exact zr_zret (pc := 87) hV dX4_readOrder_87 rfl rfl (by omega) ⟨_, rfl, ⟨by decide, by decide⟩, hσ13, hFσ13, hOσ13, (by omega), (show ((0 : Int) = 1 → ¬ (∃ i, 0 ≤ i ∧ i < σ13 3 3 ∧ σ13 (σ13 10 i) 0 = zt_na (σ 2) (zt_z0 (σ 2) (σ 1 1)) (zt_n0 (σ 2) (σ 1 1))) ∧ zt_oK (σ 2) (σ 1 1) (σ 3 2) (σ 3 1) (σ 3 0) ∧ zt_cC σ13 sp (σ 2) (σ 1 1) (σ 3 2)) ∧ ((0 : Int) = 0 → ((∃ i, 0 ≤ i ∧ i < σ13 3 3 ∧ σ13 (σ13 10 i) 0 = zt_na (σ 2) (zt_z0 (σ 2) (σ 1 1)) (zt_n0 (σ 2) (σ 1 1))) → σ13 1 2 = (zt_z0 (σ 2) (σ 1 1))) ∧ (¬ (∃ i, 0 ≤ i ∧ i < σ13 3 3 ∧ σ13 (σ13 10 i) 0 = zt_na (σ 2) (zt_z0 (σ 2) (σ 1 1)) (zt_n0 (σ 2) (σ 1 1))) → ¬ zt_oK (σ 2) (σ 1 1) (σ 3 2) (σ 3 1) (σ 3 0) ∧ σ13 1 2 = zt_oF (σ 2) (σ 1 1) (σ 3 2) (σ 3 1) (σ 3 0))) from ⟨fun h => absurd h (by omega), fun _ => ⟨fun d => absurd d (fun ⟨i, h0, h1, h2⟩ => by have z3 := zc_g3_3 hσ1 zc_s3; rw [hfσ13 3 _ (zc_out_at zc_s3 rfl)] at h1; rw [hfσ13 10 _ (zc_out_ar zc_s10 rfl), hfσ13 (σ1 10 i) _ (zc_out_at (zc_ga10 hσ1 zc_s10 i (by omega) (by omega)) rfl)] at h2; exact (wσ1.1 (by omega)).2.2 i h0 h1 h2), fun _ => by have o := zt_o2 (t := σ 2) (n := σ 1 1) (b := σ 3 2) (k := σ 3 1) (w := σ 3 0) y1 (by omega); exact ⟨o.1, by rw [o.2]; omega⟩⟩⟩)⟩
    · show V 19 [some (ZR 132)] [] 284 σ13
      have y2 : zt_tkR (σ 2) (σ 1 1) 58 (zt_p0 (σ 2) (σ 1 1)) ≠ 0 := by omega
      have a2 : σ13 1 2 = (zt_oL (σ 2) (σ 1 1)) := by unfold zt_oL; omega
      refine zr_aload_n (pc := 19) hV dX4_readOrder_19 rfl rfl ?_
      have t27 := zc_g4_1 hσ13 ksp
      have t28 : σ13 sp 1 = σ1 sp 1 := hfσ13 _ _ (zc_out_at ksp rfl)
      have t29 := zc_g4_2 hσ13 ksp
      have t30 : σ13 sp 2 = σ1 sp 2 := hfσ13 _ _ (zc_out_at ksp rfl)
      have t31 : σ13 3 5 = σ1 3 5 := hfσ13 _ _ (zc_out_at zc_s3 rfl)
      have t32 : σ1 3 5 = σ 3 5 := hfσ1 _ _ (zc_out_at zc_s3 rfl)
      refine zr_callVi (pc := 20) hV [] (st := []) (c_X4_readLook_2 (σ := σ13) hσ13 sp (by omega) ksp (by omega) (fun j h0 h3 => by rw [hfσ13 (sp + 1) _ (zc_out_ar (zc_p4_1 ksp) rfl)]; exact wσ1.2.2 j h0 h3)) dX4_readOrder_20 mX4_33 (zc_k132 zc_s132) (zc_pos zc_s132 rfl) (by decide) (Nat.le_of_ble_eq_true rfl) (Nat.le_refl _) (fun r20 σ20 hr20 pσ20 => ?_)
      obtain ⟨hσ20, hfσ20, hoσ20, pσ20, wσ20⟩ := pσ20
      have hFσ20 := zc_Fc hfσ20 rfl hFσ13
      have hOσ20 := zd_Oo hoσ20 hOσ13
      have t33 := zc_g1_1 hσ13 zc_s1
      have t34 : σ13 1 1 = σ1 1 1 := hfσ13 _ _ (zc_out_at zc_s1 rfl)
      have t35 : σ1 1 1 = σ 1 1 := hfσ1 _ _ (zc_out_at zc_s1 rfl)
      have t36 := zc_g1_2 hσ13 zc_s1
      have t37 := zc_g3_0 hσ13 zc_s3
      have t38 : σ13 3 0 = σ1 3 0 := hfσ13 _ _ (zc_out_at zc_s3 rfl)
      have t39 : σ1 3 0 = σ 3 0 := hfσ1 _ _ (zc_out_at zc_s3 rfl)
      have t40 := zc_g3_1 hσ13 zc_s3
      have t41 : σ13 3 1 = σ1 3 1 := hfσ13 _ _ (zc_out_at zc_s3 rfl)
      have t42 : σ1 3 1 = σ 3 1 := hfσ1 _ _ (zc_out_at zc_s3 rfl)
      have t43 := zc_g3_2 hσ13 zc_s3
      have t44 : σ13 3 2 = σ1 3 2 := hfσ13 _ _ (zc_out_at zc_s3 rfl)
      have t45 : σ1 3 2 = σ 3 2 := hfσ1 _ _ (zc_out_at zc_s3 rfl)
      have Tσ13 : σ13 2 = σ 2 := funext (fun i => hFσ13 2 i (zc_out_ar zc_s2 rfl))
      have Nσ13 : σ13 1 1 = σ 1 1 := hFσ13 1 1 (zc_out_at zc_s1 rfl)
      rw [Tσ13, Nσ13] at pσ20
      rw [Tσ13, Nσ13] at wσ20
      have t46 := zc_g1_2 hσ20 zc_s1
      have B2 : σ13 3 2 = σ 3 2 := hFσ13 3 2 (zc_out_at zc_s3 rfl)
      have B1 : σ13 3 1 = σ 3 1 := hFσ13 3 1 (zc_out_at zc_s3 rfl)
      have B0 : σ13 3 0 = σ 3 0 := hFσ13 3 0 (zc_out_at zc_s3 rfl)
      rw [a2, B2] at pσ20
      rw [a2, B2, B1, B0] at wσ20
      have a3 : σ20 1 2 = (zt_oE (σ 2) (σ 1 1) (σ 3 2)) := pσ20.2
      refine zr_if_eq (pc := 23) hV 86 dX4_readOrder_23 (by decide) (by omega) (fun c47 => ?_) (fun c47 => ?_)
      · show V 86 [some (ZR 132)] [] 284 σ20
        refine zr_iconst (pc := 86) hV 0 dX4_readOrder_86 rfl ?_
        show V 87 [some (ZR 132)] [ZI 0] 284 σ20
        have t48 := zc_g1_2 hσ20 zc_s1
        have t49 := zc_g3_3 hσ20 zc_s3
        have t50 : σ20 3 3 = σ13 3 3 := hfσ20 _ _ (zc_out_at zc_s3 rfl)
        have t51 : σ13 3 3 = σ1 3 3 := hfσ13 _ _ (zc_out_at zc_s3 rfl)
        have t52 : σ1 3 3 = σ 3 3 := hfσ1 _ _ (zc_out_at zc_s3 rfl)
        exact zr_zret (pc := 87) hV dX4_readOrder_87 rfl rfl (by omega) ⟨_, rfl, ⟨by decide, by decide⟩, hσ20, hFσ20, hOσ20, (by omega), (show ((0 : Int) = 1 → ¬ (∃ i, 0 ≤ i ∧ i < σ20 3 3 ∧ σ20 (σ20 10 i) 0 = zt_na (σ 2) (zt_z0 (σ 2) (σ 1 1)) (zt_n0 (σ 2) (σ 1 1))) ∧ zt_oK (σ 2) (σ 1 1) (σ 3 2) (σ 3 1) (σ 3 0) ∧ zt_cC σ20 sp (σ 2) (σ 1 1) (σ 3 2)) ∧ ((0 : Int) = 0 → ((∃ i, 0 ≤ i ∧ i < σ20 3 3 ∧ σ20 (σ20 10 i) 0 = zt_na (σ 2) (zt_z0 (σ 2) (σ 1 1)) (zt_n0 (σ 2) (σ 1 1))) → σ20 1 2 = (zt_z0 (σ 2) (σ 1 1))) ∧ (¬ (∃ i, 0 ≤ i ∧ i < σ20 3 3 ∧ σ20 (σ20 10 i) 0 = zt_na (σ 2) (zt_z0 (σ 2) (σ 1 1)) (zt_n0 (σ 2) (σ 1 1))) → ¬ zt_oK (σ 2) (σ 1 1) (σ 3 2) (σ 3 1) (σ 3 0) ∧ σ20 1 2 = zt_oF (σ 2) (σ 1 1) (σ 3 2) (σ 3 1) (σ 3 0))) from ⟨fun h => absurd h (by omega), fun _ => ⟨fun d => absurd d (fun ⟨i, h0, h1, h2⟩ => by have z3 := zc_g3_3 hσ1 zc_s3; rw [hfσ20 3 _ (zc_out_at zc_s3 rfl), hfσ13 3 _ (zc_out_at zc_s3 rfl)] at h1; rw [hfσ20 10 _ (zc_out_ar zc_s10 rfl), hfσ13 10 _ (zc_out_ar zc_s10 rfl), hfσ20 (σ1 10 i) _ (zc_out_at (zc_ga10 hσ1 zc_s10 i (by omega) (by omega)) rfl), hfσ13 (σ1 10 i) _ (zc_out_at (zc_ga10 hσ1 zc_s10 i (by omega) (by omega)) rfl)] at h2; exact (wσ1.1 (by omega)).2.2 i h0 h1 h2), fun _ => by have o := zt_o3 (t := σ 2) (n := σ 1 1) (b := σ 3 2) (k := σ 3 1) (w := σ 3 0) y1 y2 (fun q => wσ20.2.1 (by omega) q.1 ((zt_fok_ext (wσ20.2.2 q.1).2.2).mpr q.2)); exact ⟨o.1, by rw [o.2]; exact a3⟩⟩⟩)⟩
      · show V 26 [some (ZR 132)] [] 284 σ20
        have u3 := wσ20.1 (by omega)
        have v3 := wσ20.2.2 u3.1
        have m3 : ∀ f, 0 ≤ f → f ≤ 3 → σ20 (sp + 1) f = zt_oM (σ 2) (σ 1 1) (σ 3 2) f := v3.2.2
        have y3 : (zt_oR (σ 2) (σ 1 1) (σ 3 2)) = σ 3 2 ∧ zt_fok (zt_oM (σ 2) (σ 1 1) (σ 3 2)) (σ 3 1) (σ 3 0) := ⟨u3.1, (zt_fok_ext m3).mp u3.2⟩
        have Hσ20 : zt_H (σ20 (sp + 1)) = (zt_oH (σ 2) (σ 1 1) (σ 3 2)) := zt_H_ext m3
        refine zr_aload_n (pc := 26) hV dX4_readOrder_26 rfl rfl ?_
        refine zr_getR (pc := 27) hV 0 1 dX4_readOrder_27 fX4_15 rfl rfl (zc_k132 zc_s132) (zc_pos zc_s132 rfl) (zc_g132_0 hσ20 zc_s132) (by decide) ?_
        refine zr_bipush (pc := 30) hV 58 dX4_readOrder_30 (by decide) ?_
        refine zr_callVi (pc := 32) hV [ZI 58] (st := []) (c_X8_takes_2 (σ := σ20) hσ20 58 (by omega)) dX4_readOrder_32 mX4_27 (zc_k1 zc_s1) (zc_pos zc_s1 rfl) (by decide) (Nat.le_of_ble_eq_true rfl) (Nat.le_refl _) (fun r32 σ32 hr32 pσ32 => ?_)
        obtain ⟨hσ32, hfσ32, pσ32⟩ := pσ32
        have hFσ32 := zc_Fc hfσ32 rfl hFσ20
        have hOσ32 := zd_Oc hfσ32 rfl hOσ20
        have t53 := zc_g1_1 hσ20 zc_s1
        have t54 : σ20 1 1 = σ13 1 1 := hfσ20 _ _ (zc_out_at zc_s1 rfl)
        have t55 : σ13 1 1 = σ1 1 1 := hfσ13 _ _ (zc_out_at zc_s1 rfl)
        have t56 : σ1 1 1 = σ 1 1 := hfσ1 _ _ (zc_out_at zc_s1 rfl)
        have t57 := zc_g1_2 hσ20 zc_s1
        have Tσ20 : σ20 2 = σ 2 := funext (fun i => hFσ20 2 i (zc_out_ar zc_s2 rfl))
        have Nσ20 : σ20 1 1 = σ 1 1 := hFσ20 1 1 (zc_out_at zc_s1 rfl)
        rw [Tσ20, Nσ20] at pσ32
        have t58 := zc_g1_2 hσ32 zc_s1
        rw [a3] at pσ32
        refine zr_if_eq (pc := 35) hV 86 dX4_readOrder_35 (by decide) (by omega) (fun c59 => ?_) (fun c59 => ?_)
        · show V 86 [some (ZR 132)] [] 284 σ32
          refine zr_iconst (pc := 86) hV 0 dX4_readOrder_86 rfl ?_
          show V 87 [some (ZR 132)] [ZI 0] 284 σ32
          have t60 := zc_g1_2 hσ32 zc_s1
          have t61 := zc_g3_3 hσ32 zc_s3
          have t62 : σ32 3 3 = σ20 3 3 := hfσ32 _ _ (zc_out_at zc_s3 rfl)
          have t63 : σ20 3 3 = σ13 3 3 := hfσ20 _ _ (zc_out_at zc_s3 rfl)
          have t64 : σ13 3 3 = σ1 3 3 := hfσ13 _ _ (zc_out_at zc_s3 rfl)
          have t65 : σ1 3 3 = σ 3 3 := hfσ1 _ _ (zc_out_at zc_s3 rfl)
          exact zr_zret (pc := 87) hV dX4_readOrder_87 rfl rfl (by omega) ⟨_, rfl, ⟨by decide, by decide⟩, hσ32, hFσ32, hOσ32, (by omega), (show ((0 : Int) = 1 → ¬ (∃ i, 0 ≤ i ∧ i < σ32 3 3 ∧ σ32 (σ32 10 i) 0 = zt_na (σ 2) (zt_z0 (σ 2) (σ 1 1)) (zt_n0 (σ 2) (σ 1 1))) ∧ zt_oK (σ 2) (σ 1 1) (σ 3 2) (σ 3 1) (σ 3 0) ∧ zt_cC σ32 sp (σ 2) (σ 1 1) (σ 3 2)) ∧ ((0 : Int) = 0 → ((∃ i, 0 ≤ i ∧ i < σ32 3 3 ∧ σ32 (σ32 10 i) 0 = zt_na (σ 2) (zt_z0 (σ 2) (σ 1 1)) (zt_n0 (σ 2) (σ 1 1))) → σ32 1 2 = (zt_z0 (σ 2) (σ 1 1))) ∧ (¬ (∃ i, 0 ≤ i ∧ i < σ32 3 3 ∧ σ32 (σ32 10 i) 0 = zt_na (σ 2) (zt_z0 (σ 2) (σ 1 1)) (zt_n0 (σ 2) (σ 1 1))) → ¬ zt_oK (σ 2) (σ 1 1) (σ 3 2) (σ 3 1) (σ 3 0) ∧ σ32 1 2 = zt_oF (σ 2) (σ 1 1) (σ 3 2) (σ 3 1) (σ 3 0))) from ⟨fun h => absurd h (by omega), fun _ => ⟨fun d => absurd d (fun ⟨i, h0, h1, h2⟩ => by have z3 := zc_g3_3 hσ1 zc_s3; rw [hfσ32 3 _ (zc_out_at zc_s3 rfl), hfσ20 3 _ (zc_out_at zc_s3 rfl), hfσ13 3 _ (zc_out_at zc_s3 rfl)] at h1; rw [hfσ32 10 _ (zc_out_ar zc_s10 rfl), hfσ20 10 _ (zc_out_ar zc_s10 rfl), hfσ13 10 _ (zc_out_ar zc_s10 rfl), hfσ32 (σ1 10 i) _ (zc_out_at (zc_ga10 hσ1 zc_s10 i (by omega) (by omega)) rfl), hfσ20 (σ1 10 i) _ (zc_out_at (zc_ga10 hσ1 zc_s10 i (by omega) (by omega)) rfl), hfσ13 (σ1 10 i) _ (zc_out_at (zc_ga10 hσ1 zc_s10 i (by omega) (by omega)) rfl)] at h2; exact (wσ1.1 (by omega)).2.2 i h0 h1 h2), fun _ => by have o := zt_o4 (t := σ 2) (n := σ 1 1) (b := σ 3 2) (k := σ 3 1) (w := σ 3 0) y1 y2 y3 (by omega); exact ⟨o.1, by rw [o.2]; omega⟩⟩⟩)⟩
        · show V 38 [some (ZR 132)] [] 284 σ32
          have y4 : zt_tkR (σ 2) (σ 1 1) 58 (zt_oE (σ 2) (σ 1 1) (σ 3 2)) ≠ 0 := by omega
          have a4 : σ32 1 2 = (zt_oG (σ 2) (σ 1 1) (σ 3 2)) := by unfold zt_oG; omega
          refine zr_aload_n (pc := 38) hV dX4_readOrder_38 rfl rfl ?_
          have t66 := zc_g4_4 hσ32 ksp
          have t67 : σ32 sp 4 = σ20 sp 4 := hfσ32 _ _ (zc_out_at ksp rfl)
          have t68 : σ20 sp 4 = σ13 sp 4 := hfσ20 _ _ (zc_out_at ksp rfl)
          have t69 : σ13 sp 4 = σ1 sp 4 := hfσ13 _ _ (zc_out_at ksp rfl)
          have t70 := zc_g4_5 hσ32 ksp
          have t71 : σ32 sp 5 = σ20 sp 5 := hfσ32 _ _ (zc_out_at ksp rfl)
          have t72 : σ20 sp 5 = σ13 sp 5 := hfσ20 _ _ (zc_out_at ksp rfl)
          have t73 : σ13 sp 5 = σ1 sp 5 := hfσ13 _ _ (zc_out_at ksp rfl)
          have t74 : σ32 3 5 = σ20 3 5 := hfσ32 _ _ (zc_out_at zc_s3 rfl)
          have t75 : σ20 3 5 = σ13 3 5 := hfσ20 _ _ (zc_out_at zc_s3 rfl)
          have t76 : σ13 3 5 = σ1 3 5 := hfσ13 _ _ (zc_out_at zc_s3 rfl)
          have t77 : σ1 3 5 = σ 3 5 := hfσ1 _ _ (zc_out_at zc_s3 rfl)
          refine zr_callVi (pc := 39) hV [] (st := []) (c_X4_readGuard_2 (σ := σ32) hσ32 sp (by omega) ksp (by omega)) dX4_readOrder_39 mX4_36 (zc_k132 zc_s132) (zc_pos zc_s132 rfl) (by decide) (Nat.le_of_ble_eq_true rfl) (Nat.le_refl _) (fun r39 σ39 hr39 pσ39 => ?_)
          obtain ⟨hσ39, hfσ39, hoσ39, pσ39, wσ39⟩ := pσ39
          have hFσ39 := zc_Fc hfσ39 rfl hFσ32
          have hOσ39 := zd_Oo hoσ39 hOσ32
          have t78 := zc_g1_1 hσ32 zc_s1
          have t79 : σ32 1 1 = σ20 1 1 := hfσ32 _ _ (zc_out_at zc_s1 rfl)
          have t80 : σ20 1 1 = σ13 1 1 := hfσ20 _ _ (zc_out_at zc_s1 rfl)
          have t81 : σ13 1 1 = σ1 1 1 := hfσ13 _ _ (zc_out_at zc_s1 rfl)
          have t82 : σ1 1 1 = σ 1 1 := hfσ1 _ _ (zc_out_at zc_s1 rfl)
          have t83 := zc_g1_2 hσ32 zc_s1
          have t84 := zc_g4_12 hσ32 ksp
          have t85 : σ32 sp 12 = σ20 sp 12 := hfσ32 _ _ (zc_out_at ksp rfl)
          have t86 : σ20 sp 12 = σ13 sp 12 := hfσ20 _ _ (zc_out_at ksp rfl)
          have t87 : σ13 sp 12 = σ1 sp 12 := hfσ13 _ _ (zc_out_at ksp rfl)
          have Tσ32 : σ32 2 = σ 2 := funext (fun i => hFσ32 2 i (zc_out_ar zc_s2 rfl))
          have Nσ32 : σ32 1 1 = σ 1 1 := hFσ32 1 1 (zc_out_at zc_s1 rfl)
          rw [Tσ32, Nσ32] at pσ39
          rw [Tσ32, Nσ32] at wσ39
          have t88 := zc_g1_2 hσ39 zc_s1
          have Hσ32 : zt_H (σ32 (sp + 1)) = (zt_oH (σ 2) (σ 1 1) (σ 3 2)) := by rw [show σ32 (sp + 1) = σ20 (sp + 1) from funext (fun i => hfσ32 (sp + 1) i (zc_out_ar (zc_p4_1 ksp) rfl))]; exact Hσ20
          rw [Hσ32, a4] at pσ39 wσ39
          refine zr_if_eq (pc := 42) hV 86 dX4_readOrder_42 (by decide) (by omega) (fun c89 => ?_) (fun c89 => ?_)
          · show V 86 [some (ZR 132)] [] 284 σ39
            refine zr_iconst (pc := 86) hV 0 dX4_readOrder_86 rfl ?_
            show V 87 [some (ZR 132)] [ZI 0] 284 σ39
            have t90 := zc_g1_2 hσ39 zc_s1
            have t91 := zc_g3_3 hσ39 zc_s3
            have t92 : σ39 3 3 = σ32 3 3 := hfσ39 _ _ (zc_out_at zc_s3 rfl)
            have t93 : σ32 3 3 = σ20 3 3 := hfσ32 _ _ (zc_out_at zc_s3 rfl)
            have t94 : σ20 3 3 = σ13 3 3 := hfσ20 _ _ (zc_out_at zc_s3 rfl)
            have t95 : σ13 3 3 = σ1 3 3 := hfσ13 _ _ (zc_out_at zc_s3 rfl)
            have t96 : σ1 3 3 = σ 3 3 := hfσ1 _ _ (zc_out_at zc_s3 rfl)
            exact zr_zret (pc := 87) hV dX4_readOrder_87 rfl rfl (by omega) ⟨_, rfl, ⟨by decide, by decide⟩, hσ39, hFσ39, hOσ39, (by omega), (show ((0 : Int) = 1 → ¬ (∃ i, 0 ≤ i ∧ i < σ39 3 3 ∧ σ39 (σ39 10 i) 0 = zt_na (σ 2) (zt_z0 (σ 2) (σ 1 1)) (zt_n0 (σ 2) (σ 1 1))) ∧ zt_oK (σ 2) (σ 1 1) (σ 3 2) (σ 3 1) (σ 3 0) ∧ zt_cC σ39 sp (σ 2) (σ 1 1) (σ 3 2)) ∧ ((0 : Int) = 0 → ((∃ i, 0 ≤ i ∧ i < σ39 3 3 ∧ σ39 (σ39 10 i) 0 = zt_na (σ 2) (zt_z0 (σ 2) (σ 1 1)) (zt_n0 (σ 2) (σ 1 1))) → σ39 1 2 = (zt_z0 (σ 2) (σ 1 1))) ∧ (¬ (∃ i, 0 ≤ i ∧ i < σ39 3 3 ∧ σ39 (σ39 10 i) 0 = zt_na (σ 2) (zt_z0 (σ 2) (σ 1 1)) (zt_n0 (σ 2) (σ 1 1))) → ¬ zt_oK (σ 2) (σ 1 1) (σ 3 2) (σ 3 1) (σ 3 0) ∧ σ39 1 2 = zt_oF (σ 2) (σ 1 1) (σ 3 2) (σ 3 1) (σ 3 0))) from ⟨fun h => absurd h (by omega), fun _ => ⟨fun d => absurd d (fun ⟨i, h0, h1, h2⟩ => by have z3 := zc_g3_3 hσ1 zc_s3; rw [hfσ39 3 _ (zc_out_at zc_s3 rfl), hfσ32 3 _ (zc_out_at zc_s3 rfl), hfσ20 3 _ (zc_out_at zc_s3 rfl), hfσ13 3 _ (zc_out_at zc_s3 rfl)] at h1; rw [hfσ39 10 _ (zc_out_ar zc_s10 rfl), hfσ32 10 _ (zc_out_ar zc_s10 rfl), hfσ20 10 _ (zc_out_ar zc_s10 rfl), hfσ13 10 _ (zc_out_ar zc_s10 rfl), hfσ39 (σ1 10 i) _ (zc_out_at (zc_ga10 hσ1 zc_s10 i (by omega) (by omega)) rfl), hfσ32 (σ1 10 i) _ (zc_out_at (zc_ga10 hσ1 zc_s10 i (by omega) (by omega)) rfl), hfσ20 (σ1 10 i) _ (zc_out_at (zc_ga10 hσ1 zc_s10 i (by omega) (by omega)) rfl), hfσ13 (σ1 10 i) _ (zc_out_at (zc_ga10 hσ1 zc_s10 i (by omega) (by omega)) rfl)] at h2; exact (wσ1.1 (by omega)).2.2 i h0 h1 h2), fun _ => by have o := zt_o5 (t := σ 2) (n := σ 1 1) (b := σ 3 2) (k := σ 3 1) (w := σ 3 0) y1 y2 y3 y4 (by omega); exact ⟨o.1, by rw [o.2]; omega⟩⟩⟩)⟩
          · show V 45 [some (ZR 132)] [] 284 σ39
            have y5 : zt_gR (zt_oH (σ 2) (σ 1 1) (σ 3 2)) (σ 2) (σ 1 1) (zt_oG (σ 2) (σ 1 1) (σ 3 2)) ≠ 0 := by omega
            have a5 : σ39 1 2 = (zt_oS (σ 2) (σ 1 1) (σ 3 2)) := by unfold zt_oS; omega
            have v5 := wσ39 (by omega)
            refine zr_aload_n (pc := 45) hV dX4_readOrder_45 rfl rfl ?_
            have t97 := zc_g4_6 hσ39 ksp
            have t98 : σ39 sp 6 = σ32 sp 6 := hfσ39 _ _ (zc_out_at ksp rfl)
            have t99 : σ32 sp 6 = σ20 sp 6 := hfσ32 _ _ (zc_out_at ksp rfl)
            have t100 : σ20 sp 6 = σ13 sp 6 := hfσ20 _ _ (zc_out_at ksp rfl)
            have t101 : σ13 sp 6 = σ1 sp 6 := hfσ13 _ _ (zc_out_at ksp rfl)
            have t102 : σ39 3 5 = σ32 3 5 := hfσ39 _ _ (zc_out_at zc_s3 rfl)
            have t103 : σ32 3 5 = σ20 3 5 := hfσ32 _ _ (zc_out_at zc_s3 rfl)
            have t104 : σ20 3 5 = σ13 3 5 := hfσ20 _ _ (zc_out_at zc_s3 rfl)
            have t105 : σ13 3 5 = σ1 3 5 := hfσ13 _ _ (zc_out_at zc_s3 rfl)
            have t106 : σ1 3 5 = σ 3 5 := hfσ1 _ _ (zc_out_at zc_s3 rfl)
            refine zr_callVi (pc := 46) hV [] (st := []) (c_X4_readActs_2 (σ := σ39) hσ39 sp (by omega) ksp (by omega)) dX4_readOrder_46 mX4_39 (zc_k132 zc_s132) (zc_pos zc_s132 rfl) (by decide) (Nat.le_of_ble_eq_true rfl) (Nat.le_refl _) (fun r46 σ46 hr46 pσ46 => ?_)
            obtain ⟨hσ46, hfσ46, hoσ46, pσ46, wσ46⟩ := pσ46
            have hFσ46 := zc_Fc hfσ46 rfl hFσ39
            have hOσ46 := zd_Oo hoσ46 hOσ39
            have t107 := zc_g1_1 hσ39 zc_s1
            have t108 : σ39 1 1 = σ32 1 1 := hfσ39 _ _ (zc_out_at zc_s1 rfl)
            have t109 : σ32 1 1 = σ20 1 1 := hfσ32 _ _ (zc_out_at zc_s1 rfl)
            have t110 : σ20 1 1 = σ13 1 1 := hfσ20 _ _ (zc_out_at zc_s1 rfl)
            have t111 : σ13 1 1 = σ1 1 1 := hfσ13 _ _ (zc_out_at zc_s1 rfl)
            have t112 : σ1 1 1 = σ 1 1 := hfσ1 _ _ (zc_out_at zc_s1 rfl)
            have t113 := zc_g1_2 hσ39 zc_s1
            have t114 := zc_g4_12 hσ39 ksp
            have t115 := zc_g4_13 hσ39 ksp
            have t116 : σ39 sp 13 = σ32 sp 13 := hfσ39 _ _ (zc_out_at ksp rfl)
            have t117 : σ32 sp 13 = σ20 sp 13 := hfσ32 _ _ (zc_out_at ksp rfl)
            have t118 : σ20 sp 13 = σ13 sp 13 := hfσ20 _ _ (zc_out_at ksp rfl)
            have t119 : σ13 sp 13 = σ1 sp 13 := hfσ13 _ _ (zc_out_at ksp rfl)
            have Tσ39 : σ39 2 = σ 2 := funext (fun i => hFσ39 2 i (zc_out_ar zc_s2 rfl))
            have Nσ39 : σ39 1 1 = σ 1 1 := hFσ39 1 1 (zc_out_at zc_s1 rfl)
            rw [Tσ39, Nσ39] at pσ46
            rw [Tσ39, Nσ39] at wσ46
            have t120 := zc_g1_2 hσ46 zc_s1
            have Hσ39 : zt_H (σ39 (sp + 1)) = (zt_oH (σ 2) (σ 1 1) (σ 3 2)) := by rw [show σ39 (sp + 1) = σ32 (sp + 1) from funext (fun i => hfσ39 (sp + 1) i (zc_out_ar (zc_p4_1 ksp) rfl))]; exact Hσ32
            rw [Hσ39, a5] at pσ46 wσ46
            have a6 : σ46 1 2 = (zt_oA (σ 2) (σ 1 1) (σ 3 2)) := pσ46.2.2
            refine zr_if_eq (pc := 49) hV 86 dX4_readOrder_49 (by decide) (by omega) (fun c121 => ?_) (fun c121 => ?_)
            · show V 86 [some (ZR 132)] [] 284 σ46
              refine zr_iconst (pc := 86) hV 0 dX4_readOrder_86 rfl ?_
              show V 87 [some (ZR 132)] [ZI 0] 284 σ46
              have t122 := zc_g1_2 hσ46 zc_s1
              have t123 := zc_g3_3 hσ46 zc_s3
              have t124 : σ46 3 3 = σ39 3 3 := hfσ46 _ _ (zc_out_at zc_s3 rfl)
              have t125 : σ39 3 3 = σ32 3 3 := hfσ39 _ _ (zc_out_at zc_s3 rfl)
              have t126 : σ32 3 3 = σ20 3 3 := hfσ32 _ _ (zc_out_at zc_s3 rfl)
              have t127 : σ20 3 3 = σ13 3 3 := hfσ20 _ _ (zc_out_at zc_s3 rfl)
              have t128 : σ13 3 3 = σ1 3 3 := hfσ13 _ _ (zc_out_at zc_s3 rfl)
              have t129 : σ1 3 3 = σ 3 3 := hfσ1 _ _ (zc_out_at zc_s3 rfl)
              exact zr_zret (pc := 87) hV dX4_readOrder_87 rfl rfl (by omega) ⟨_, rfl, ⟨by decide, by decide⟩, hσ46, hFσ46, hOσ46, (by omega), (show ((0 : Int) = 1 → ¬ (∃ i, 0 ≤ i ∧ i < σ46 3 3 ∧ σ46 (σ46 10 i) 0 = zt_na (σ 2) (zt_z0 (σ 2) (σ 1 1)) (zt_n0 (σ 2) (σ 1 1))) ∧ zt_oK (σ 2) (σ 1 1) (σ 3 2) (σ 3 1) (σ 3 0) ∧ zt_cC σ46 sp (σ 2) (σ 1 1) (σ 3 2)) ∧ ((0 : Int) = 0 → ((∃ i, 0 ≤ i ∧ i < σ46 3 3 ∧ σ46 (σ46 10 i) 0 = zt_na (σ 2) (zt_z0 (σ 2) (σ 1 1)) (zt_n0 (σ 2) (σ 1 1))) → σ46 1 2 = (zt_z0 (σ 2) (σ 1 1))) ∧ (¬ (∃ i, 0 ≤ i ∧ i < σ46 3 3 ∧ σ46 (σ46 10 i) 0 = zt_na (σ 2) (zt_z0 (σ 2) (σ 1 1)) (zt_n0 (σ 2) (σ 1 1))) → ¬ zt_oK (σ 2) (σ 1 1) (σ 3 2) (σ 3 1) (σ 3 0) ∧ σ46 1 2 = zt_oF (σ 2) (σ 1 1) (σ 3 2) (σ 3 1) (σ 3 0))) from ⟨fun h => absurd h (by omega), fun _ => ⟨fun d => absurd d (fun ⟨i, h0, h1, h2⟩ => by have z3 := zc_g3_3 hσ1 zc_s3; rw [hfσ46 3 _ (zc_out_at zc_s3 rfl), hfσ39 3 _ (zc_out_at zc_s3 rfl), hfσ32 3 _ (zc_out_at zc_s3 rfl), hfσ20 3 _ (zc_out_at zc_s3 rfl), hfσ13 3 _ (zc_out_at zc_s3 rfl)] at h1; rw [hfσ46 10 _ (zc_out_ar zc_s10 rfl), hfσ39 10 _ (zc_out_ar zc_s10 rfl), hfσ32 10 _ (zc_out_ar zc_s10 rfl), hfσ20 10 _ (zc_out_ar zc_s10 rfl), hfσ13 10 _ (zc_out_ar zc_s10 rfl), hfσ46 (σ1 10 i) _ (zc_out_at (zc_ga10 hσ1 zc_s10 i (by omega) (by omega)) rfl), hfσ39 (σ1 10 i) _ (zc_out_at (zc_ga10 hσ1 zc_s10 i (by omega) (by omega)) rfl), hfσ32 (σ1 10 i) _ (zc_out_at (zc_ga10 hσ1 zc_s10 i (by omega) (by omega)) rfl), hfσ20 (σ1 10 i) _ (zc_out_at (zc_ga10 hσ1 zc_s10 i (by omega) (by omega)) rfl), hfσ13 (σ1 10 i) _ (zc_out_at (zc_ga10 hσ1 zc_s10 i (by omega) (by omega)) rfl)] at h2; exact (wσ1.1 (by omega)).2.2 i h0 h1 h2), fun _ => by have o := zt_o6 (t := σ 2) (n := σ 1 1) (b := σ 3 2) (k := σ 3 1) (w := σ 3 0) y1 y2 y3 y4 y5 (by omega); exact ⟨o.1, by rw [o.2]; exact a6⟩⟩⟩)⟩
            · show V 52 [some (ZR 132)] [] 284 σ46
              have y6 : zt_sR (zt_oH (σ 2) (σ 1 1) (σ 3 2)) (σ 2) (σ 1 1) (zt_oS (σ 2) (σ 1 1) (σ 3 2)) ≠ 0 := by omega
              have v6 := wσ46 (by omega)
              refine zr_aload_n (pc := 52) hV dX4_readOrder_52 rfl rfl ?_
              refine zr_getR (pc := 53) hV 0 1 dX4_readOrder_53 fX4_15 rfl rfl (zc_k132 zc_s132) (zc_pos zc_s132 rfl) (zc_g132_0 hσ46 zc_s132) (by decide) ?_
              refine zr_bipush (pc := 56) hV 58 dX4_readOrder_56 (by decide) ?_
              refine zr_callVi (pc := 58) hV [ZI 58] (st := []) (c_X8_takes_2 (σ := σ46) hσ46 58 (by omega)) dX4_readOrder_58 mX4_27 (zc_k1 zc_s1) (zc_pos zc_s1 rfl) (by decide) (Nat.le_of_ble_eq_true rfl) (Nat.le_refl _) (fun r58 σ58 hr58 pσ58 => ?_)
              obtain ⟨hσ58, hfσ58, pσ58⟩ := pσ58
              have hFσ58 := zc_Fc hfσ58 rfl hFσ46
              have hOσ58 := zd_Oc hfσ58 rfl hOσ46
              have t130 := zc_g1_1 hσ46 zc_s1
              have t131 : σ46 1 1 = σ39 1 1 := hfσ46 _ _ (zc_out_at zc_s1 rfl)
              have t132 : σ39 1 1 = σ32 1 1 := hfσ39 _ _ (zc_out_at zc_s1 rfl)
              have t133 : σ32 1 1 = σ20 1 1 := hfσ32 _ _ (zc_out_at zc_s1 rfl)
              have t134 : σ20 1 1 = σ13 1 1 := hfσ20 _ _ (zc_out_at zc_s1 rfl)
              have t135 : σ13 1 1 = σ1 1 1 := hfσ13 _ _ (zc_out_at zc_s1 rfl)
              have t136 : σ1 1 1 = σ 1 1 := hfσ1 _ _ (zc_out_at zc_s1 rfl)
              have t137 := zc_g1_2 hσ46 zc_s1
              have Tσ46 : σ46 2 = σ 2 := funext (fun i => hFσ46 2 i (zc_out_ar zc_s2 rfl))
              have Nσ46 : σ46 1 1 = σ 1 1 := hFσ46 1 1 (zc_out_at zc_s1 rfl)
              rw [Tσ46, Nσ46] at pσ58
              have t138 := zc_g1_2 hσ58 zc_s1
              rw [a6] at pσ58
              refine zr_if_eq (pc := 61) hV 86 dX4_readOrder_61 (by decide) (by omega) (fun c139 => ?_) (fun c139 => ?_)
              · show V 86 [some (ZR 132)] [] 284 σ58
                refine zr_iconst (pc := 86) hV 0 dX4_readOrder_86 rfl ?_
                show V 87 [some (ZR 132)] [ZI 0] 284 σ58
                have t140 := zc_g1_2 hσ58 zc_s1
                have t141 := zc_g3_3 hσ58 zc_s3
                have t142 : σ58 3 3 = σ46 3 3 := hfσ58 _ _ (zc_out_at zc_s3 rfl)
                have t143 : σ46 3 3 = σ39 3 3 := hfσ46 _ _ (zc_out_at zc_s3 rfl)
                have t144 : σ39 3 3 = σ32 3 3 := hfσ39 _ _ (zc_out_at zc_s3 rfl)
                have t145 : σ32 3 3 = σ20 3 3 := hfσ32 _ _ (zc_out_at zc_s3 rfl)
                have t146 : σ20 3 3 = σ13 3 3 := hfσ20 _ _ (zc_out_at zc_s3 rfl)
                have t147 : σ13 3 3 = σ1 3 3 := hfσ13 _ _ (zc_out_at zc_s3 rfl)
                have t148 : σ1 3 3 = σ 3 3 := hfσ1 _ _ (zc_out_at zc_s3 rfl)
                exact zr_zret (pc := 87) hV dX4_readOrder_87 rfl rfl (by omega) ⟨_, rfl, ⟨by decide, by decide⟩, hσ58, hFσ58, hOσ58, (by omega), (show ((0 : Int) = 1 → ¬ (∃ i, 0 ≤ i ∧ i < σ58 3 3 ∧ σ58 (σ58 10 i) 0 = zt_na (σ 2) (zt_z0 (σ 2) (σ 1 1)) (zt_n0 (σ 2) (σ 1 1))) ∧ zt_oK (σ 2) (σ 1 1) (σ 3 2) (σ 3 1) (σ 3 0) ∧ zt_cC σ58 sp (σ 2) (σ 1 1) (σ 3 2)) ∧ ((0 : Int) = 0 → ((∃ i, 0 ≤ i ∧ i < σ58 3 3 ∧ σ58 (σ58 10 i) 0 = zt_na (σ 2) (zt_z0 (σ 2) (σ 1 1)) (zt_n0 (σ 2) (σ 1 1))) → σ58 1 2 = (zt_z0 (σ 2) (σ 1 1))) ∧ (¬ (∃ i, 0 ≤ i ∧ i < σ58 3 3 ∧ σ58 (σ58 10 i) 0 = zt_na (σ 2) (zt_z0 (σ 2) (σ 1 1)) (zt_n0 (σ 2) (σ 1 1))) → ¬ zt_oK (σ 2) (σ 1 1) (σ 3 2) (σ 3 1) (σ 3 0) ∧ σ58 1 2 = zt_oF (σ 2) (σ 1 1) (σ 3 2) (σ 3 1) (σ 3 0))) from ⟨fun h => absurd h (by omega), fun _ => ⟨fun d => absurd d (fun ⟨i, h0, h1, h2⟩ => by have z3 := zc_g3_3 hσ1 zc_s3; rw [hfσ58 3 _ (zc_out_at zc_s3 rfl), hfσ46 3 _ (zc_out_at zc_s3 rfl), hfσ39 3 _ (zc_out_at zc_s3 rfl), hfσ32 3 _ (zc_out_at zc_s3 rfl), hfσ20 3 _ (zc_out_at zc_s3 rfl), hfσ13 3 _ (zc_out_at zc_s3 rfl)] at h1; rw [hfσ58 10 _ (zc_out_ar zc_s10 rfl), hfσ46 10 _ (zc_out_ar zc_s10 rfl), hfσ39 10 _ (zc_out_ar zc_s10 rfl), hfσ32 10 _ (zc_out_ar zc_s10 rfl), hfσ20 10 _ (zc_out_ar zc_s10 rfl), hfσ13 10 _ (zc_out_ar zc_s10 rfl), hfσ58 (σ1 10 i) _ (zc_out_at (zc_ga10 hσ1 zc_s10 i (by omega) (by omega)) rfl), hfσ46 (σ1 10 i) _ (zc_out_at (zc_ga10 hσ1 zc_s10 i (by omega) (by omega)) rfl), hfσ39 (σ1 10 i) _ (zc_out_at (zc_ga10 hσ1 zc_s10 i (by omega) (by omega)) rfl), hfσ32 (σ1 10 i) _ (zc_out_at (zc_ga10 hσ1 zc_s10 i (by omega) (by omega)) rfl), hfσ20 (σ1 10 i) _ (zc_out_at (zc_ga10 hσ1 zc_s10 i (by omega) (by omega)) rfl), hfσ13 (σ1 10 i) _ (zc_out_at (zc_ga10 hσ1 zc_s10 i (by omega) (by omega)) rfl)] at h2; exact (wσ1.1 (by omega)).2.2 i h0 h1 h2), fun _ => by have o := zt_o7 (t := σ 2) (n := σ 1 1) (b := σ 3 2) (k := σ 3 1) (w := σ 3 0) y1 y2 y3 y4 y5 y6 (by omega); exact ⟨o.1, by rw [o.2]; omega⟩⟩⟩)⟩
              · show V 64 [some (ZR 132)] [] 284 σ58
                have y7 : zt_tkR (σ 2) (σ 1 1) 58 (zt_oA (σ 2) (σ 1 1) (σ 3 2)) ≠ 0 := by omega
                have a7 : σ58 1 2 = (zt_oT (σ 2) (σ 1 1) (σ 3 2)) := by unfold zt_oT; omega
                refine zr_aload_n (pc := 64) hV dX4_readOrder_64 rfl rfl ?_
                have t149 : σ58 3 5 = σ46 3 5 := hfσ58 _ _ (zc_out_at zc_s3 rfl)
                have t150 : σ46 3 5 = σ39 3 5 := hfσ46 _ _ (zc_out_at zc_s3 rfl)
                have t151 : σ39 3 5 = σ32 3 5 := hfσ39 _ _ (zc_out_at zc_s3 rfl)
                have t152 : σ32 3 5 = σ20 3 5 := hfσ32 _ _ (zc_out_at zc_s3 rfl)
                have t153 : σ20 3 5 = σ13 3 5 := hfσ20 _ _ (zc_out_at zc_s3 rfl)
                have t154 : σ13 3 5 = σ1 3 5 := hfσ13 _ _ (zc_out_at zc_s3 rfl)
                have t155 : σ1 3 5 = σ 3 5 := hfσ1 _ _ (zc_out_at zc_s3 rfl)
                refine zr_callVi (pc := 65) hV [] (st := []) (c_X4_readTicks_2 (σ := σ58) hσ58 sp (by omega) ksp) dX4_readOrder_65 mX4_42 (zc_k132 zc_s132) (zc_pos zc_s132 rfl) (by decide) (Nat.le_of_ble_eq_true rfl) (Nat.le_refl _) (fun r65 σ65 hr65 pσ65 => ?_)
                obtain ⟨hσ65, hfσ65, hoσ65, pσ65, wσ65⟩ := pσ65
                have hFσ65 := zc_Fc hfσ65 rfl hFσ58
                have hOσ65 := zd_Oo hoσ65 hOσ58
                have t156 := zc_g1_1 hσ58 zc_s1
                have t157 : σ58 1 1 = σ46 1 1 := hfσ58 _ _ (zc_out_at zc_s1 rfl)
                have t158 : σ46 1 1 = σ39 1 1 := hfσ46 _ _ (zc_out_at zc_s1 rfl)
                have t159 : σ39 1 1 = σ32 1 1 := hfσ39 _ _ (zc_out_at zc_s1 rfl)
                have t160 : σ32 1 1 = σ20 1 1 := hfσ32 _ _ (zc_out_at zc_s1 rfl)
                have t161 : σ20 1 1 = σ13 1 1 := hfσ20 _ _ (zc_out_at zc_s1 rfl)
                have t162 : σ13 1 1 = σ1 1 1 := hfσ13 _ _ (zc_out_at zc_s1 rfl)
                have t163 : σ1 1 1 = σ 1 1 := hfσ1 _ _ (zc_out_at zc_s1 rfl)
                have t164 := zc_g1_2 hσ58 zc_s1
                have Tσ58 : σ58 2 = σ 2 := funext (fun i => hFσ58 2 i (zc_out_ar zc_s2 rfl))
                have Nσ58 : σ58 1 1 = σ 1 1 := hFσ58 1 1 (zc_out_at zc_s1 rfl)
                rw [Tσ58, Nσ58] at pσ65
                rw [Tσ58, Nσ58] at wσ65
                have t165 := zc_g1_2 hσ65 zc_s1
                rw [a7] at pσ65 wσ65
                refine zr_if_eq (pc := 68) hV 86 dX4_readOrder_68 (by decide) (by omega) (fun c166 => ?_) (fun c166 => ?_)
                · show V 86 [some (ZR 132)] [] 284 σ65
                  refine zr_iconst (pc := 86) hV 0 dX4_readOrder_86 rfl ?_
                  show V 87 [some (ZR 132)] [ZI 0] 284 σ65
                  have t167 := zc_g1_2 hσ65 zc_s1
                  have t168 := zc_g3_3 hσ65 zc_s3
                  have t169 : σ65 3 3 = σ58 3 3 := hfσ65 _ _ (zc_out_at zc_s3 rfl)
                  have t170 : σ58 3 3 = σ46 3 3 := hfσ58 _ _ (zc_out_at zc_s3 rfl)
                  have t171 : σ46 3 3 = σ39 3 3 := hfσ46 _ _ (zc_out_at zc_s3 rfl)
                  have t172 : σ39 3 3 = σ32 3 3 := hfσ39 _ _ (zc_out_at zc_s3 rfl)
                  have t173 : σ32 3 3 = σ20 3 3 := hfσ32 _ _ (zc_out_at zc_s3 rfl)
                  have t174 : σ20 3 3 = σ13 3 3 := hfσ20 _ _ (zc_out_at zc_s3 rfl)
                  have t175 : σ13 3 3 = σ1 3 3 := hfσ13 _ _ (zc_out_at zc_s3 rfl)
                  have t176 : σ1 3 3 = σ 3 3 := hfσ1 _ _ (zc_out_at zc_s3 rfl)
                  exact zr_zret (pc := 87) hV dX4_readOrder_87 rfl rfl (by omega) ⟨_, rfl, ⟨by decide, by decide⟩, hσ65, hFσ65, hOσ65, (by omega), (show ((0 : Int) = 1 → ¬ (∃ i, 0 ≤ i ∧ i < σ65 3 3 ∧ σ65 (σ65 10 i) 0 = zt_na (σ 2) (zt_z0 (σ 2) (σ 1 1)) (zt_n0 (σ 2) (σ 1 1))) ∧ zt_oK (σ 2) (σ 1 1) (σ 3 2) (σ 3 1) (σ 3 0) ∧ zt_cC σ65 sp (σ 2) (σ 1 1) (σ 3 2)) ∧ ((0 : Int) = 0 → ((∃ i, 0 ≤ i ∧ i < σ65 3 3 ∧ σ65 (σ65 10 i) 0 = zt_na (σ 2) (zt_z0 (σ 2) (σ 1 1)) (zt_n0 (σ 2) (σ 1 1))) → σ65 1 2 = (zt_z0 (σ 2) (σ 1 1))) ∧ (¬ (∃ i, 0 ≤ i ∧ i < σ65 3 3 ∧ σ65 (σ65 10 i) 0 = zt_na (σ 2) (zt_z0 (σ 2) (σ 1 1)) (zt_n0 (σ 2) (σ 1 1))) → ¬ zt_oK (σ 2) (σ 1 1) (σ 3 2) (σ 3 1) (σ 3 0) ∧ σ65 1 2 = zt_oF (σ 2) (σ 1 1) (σ 3 2) (σ 3 1) (σ 3 0))) from ⟨fun h => absurd h (by omega), fun _ => ⟨fun d => absurd d (fun ⟨i, h0, h1, h2⟩ => by have z3 := zc_g3_3 hσ1 zc_s3; rw [hfσ65 3 _ (zc_out_at zc_s3 rfl), hfσ58 3 _ (zc_out_at zc_s3 rfl), hfσ46 3 _ (zc_out_at zc_s3 rfl), hfσ39 3 _ (zc_out_at zc_s3 rfl), hfσ32 3 _ (zc_out_at zc_s3 rfl), hfσ20 3 _ (zc_out_at zc_s3 rfl), hfσ13 3 _ (zc_out_at zc_s3 rfl)] at h1; rw [hfσ65 10 _ (zc_out_ar zc_s10 rfl), hfσ58 10 _ (zc_out_ar zc_s10 rfl), hfσ46 10 _ (zc_out_ar zc_s10 rfl), hfσ39 10 _ (zc_out_ar zc_s10 rfl), hfσ32 10 _ (zc_out_ar zc_s10 rfl), hfσ20 10 _ (zc_out_ar zc_s10 rfl), hfσ13 10 _ (zc_out_ar zc_s10 rfl), hfσ65 (σ1 10 i) _ (zc_out_at (zc_ga10 hσ1 zc_s10 i (by omega) (by omega)) rfl), hfσ58 (σ1 10 i) _ (zc_out_at (zc_ga10 hσ1 zc_s10 i (by omega) (by omega)) rfl), hfσ46 (σ1 10 i) _ (zc_out_at (zc_ga10 hσ1 zc_s10 i (by omega) (by omega)) rfl), hfσ39 (σ1 10 i) _ (zc_out_at (zc_ga10 hσ1 zc_s10 i (by omega) (by omega)) rfl), hfσ32 (σ1 10 i) _ (zc_out_at (zc_ga10 hσ1 zc_s10 i (by omega) (by omega)) rfl), hfσ20 (σ1 10 i) _ (zc_out_at (zc_ga10 hσ1 zc_s10 i (by omega) (by omega)) rfl), hfσ13 (σ1 10 i) _ (zc_out_at (zc_ga10 hσ1 zc_s10 i (by omega) (by omega)) rfl)] at h2; exact (wσ1.1 (by omega)).2.2 i h0 h1 h2), fun _ => by have o := zt_o8 (t := σ 2) (n := σ 1 1) (b := σ 3 2) (k := σ 3 1) (w := σ 3 0) y1 y2 y3 y4 y5 y6 y7 (by omega); exact ⟨o.1, by rw [o.2]; omega⟩⟩⟩)⟩
                · show V 71 [some (ZR 132)] [] 284 σ65
                  have y8 : 49 ≤ zt_nx (σ 2) (σ 1 1) (zt_oT (σ 2) (σ 1 1) (σ 3 2)) ∧ zt_nx (σ 2) (σ 1 1) (zt_oT (σ 2) (σ 1 1) (σ 3 2)) ≤ 57 := by omega
                  have a8 : σ65 1 2 = zt_sk (σ 2) (σ 1 1) (zt_oT (σ 2) (σ 1 1) (σ 3 2)) + 1 := by omega
                  have v8 := wσ65 (by omega)
                  refine zr_aload_n (pc := 71) hV dX4_readOrder_71 rfl rfl ?_
                  refine zr_getR (pc := 72) hV 0 1 dX4_readOrder_72 fX4_15 rfl rfl (zc_k132 zc_s132) (zc_pos zc_s132 rfl) (zc_g132_0 hσ65 zc_s132) (by decide) ?_
                  refine zr_callVi (pc := 75) hV [] (st := []) (c_X8_next_2 (σ := σ65) hσ65) dX4_readOrder_75 mX4_45 (zc_k1 zc_s1) (zc_pos zc_s1 rfl) (by decide) (Nat.le_of_ble_eq_true rfl) (Nat.le_refl _) (fun r75 σ75 hr75 pσ75 => ?_)
                  obtain ⟨hσ75, hfσ75, pσ75⟩ := pσ75
                  have hFσ75 := zc_Fc hfσ75 rfl hFσ65
                  have hOσ75 := zd_Oc hfσ75 rfl hOσ65
                  have t177 := zc_g1_1 hσ65 zc_s1
                  have t178 : σ65 1 1 = σ58 1 1 := hfσ65 _ _ (zc_out_at zc_s1 rfl)
                  have t179 : σ58 1 1 = σ46 1 1 := hfσ58 _ _ (zc_out_at zc_s1 rfl)
                  have t180 : σ46 1 1 = σ39 1 1 := hfσ46 _ _ (zc_out_at zc_s1 rfl)
                  have t181 : σ39 1 1 = σ32 1 1 := hfσ39 _ _ (zc_out_at zc_s1 rfl)
                  have t182 : σ32 1 1 = σ20 1 1 := hfσ32 _ _ (zc_out_at zc_s1 rfl)
                  have t183 : σ20 1 1 = σ13 1 1 := hfσ20 _ _ (zc_out_at zc_s1 rfl)
                  have t184 : σ13 1 1 = σ1 1 1 := hfσ13 _ _ (zc_out_at zc_s1 rfl)
                  have t185 : σ1 1 1 = σ 1 1 := hfσ1 _ _ (zc_out_at zc_s1 rfl)
                  have t186 := zc_g1_2 hσ65 zc_s1
                  have Tσ65 : σ65 2 = σ 2 := funext (fun i => hFσ65 2 i (zc_out_ar zc_s2 rfl))
                  have Nσ65 : σ65 1 1 = σ 1 1 := hFσ65 1 1 (zc_out_at zc_s1 rfl)
                  rw [Tσ65, Nσ65] at pσ75
                  have t187 := zc_g1_2 hσ75 zc_s1
                  rw [a8] at pσ75
                  refine zr_iconst (pc := 78) hV (-1) dX4_readOrder_78 rfl ?_
                  refine zr_icmp_ne (pc := 79) hV 86 dX4_readOrder_79 (by decide) (by omega) ⟨by decide, by decide⟩ (fun c188 => ?_) (fun c188 => ?_)
                  · show V 86 [some (ZR 132)] [] 284 σ75
                    refine zr_iconst (pc := 86) hV 0 dX4_readOrder_86 rfl ?_
                    show V 87 [some (ZR 132)] [ZI 0] 284 σ75
                    have t189 := zc_g1_2 hσ75 zc_s1
                    have t190 := zc_g3_3 hσ75 zc_s3
                    have t191 : σ75 3 3 = σ65 3 3 := hfσ75 _ _ (zc_out_at zc_s3 rfl)
                    have t192 : σ65 3 3 = σ58 3 3 := hfσ65 _ _ (zc_out_at zc_s3 rfl)
                    have t193 : σ58 3 3 = σ46 3 3 := hfσ58 _ _ (zc_out_at zc_s3 rfl)
                    have t194 : σ46 3 3 = σ39 3 3 := hfσ46 _ _ (zc_out_at zc_s3 rfl)
                    have t195 : σ39 3 3 = σ32 3 3 := hfσ39 _ _ (zc_out_at zc_s3 rfl)
                    have t196 : σ32 3 3 = σ20 3 3 := hfσ32 _ _ (zc_out_at zc_s3 rfl)
                    have t197 : σ20 3 3 = σ13 3 3 := hfσ20 _ _ (zc_out_at zc_s3 rfl)
                    have t198 : σ13 3 3 = σ1 3 3 := hfσ13 _ _ (zc_out_at zc_s3 rfl)
                    have t199 : σ1 3 3 = σ 3 3 := hfσ1 _ _ (zc_out_at zc_s3 rfl)
                    exact zr_zret (pc := 87) hV dX4_readOrder_87 rfl rfl (by omega) ⟨_, rfl, ⟨by decide, by decide⟩, hσ75, hFσ75, hOσ75, (by omega), (show ((0 : Int) = 1 → ¬ (∃ i, 0 ≤ i ∧ i < σ75 3 3 ∧ σ75 (σ75 10 i) 0 = zt_na (σ 2) (zt_z0 (σ 2) (σ 1 1)) (zt_n0 (σ 2) (σ 1 1))) ∧ zt_oK (σ 2) (σ 1 1) (σ 3 2) (σ 3 1) (σ 3 0) ∧ zt_cC σ75 sp (σ 2) (σ 1 1) (σ 3 2)) ∧ ((0 : Int) = 0 → ((∃ i, 0 ≤ i ∧ i < σ75 3 3 ∧ σ75 (σ75 10 i) 0 = zt_na (σ 2) (zt_z0 (σ 2) (σ 1 1)) (zt_n0 (σ 2) (σ 1 1))) → σ75 1 2 = (zt_z0 (σ 2) (σ 1 1))) ∧ (¬ (∃ i, 0 ≤ i ∧ i < σ75 3 3 ∧ σ75 (σ75 10 i) 0 = zt_na (σ 2) (zt_z0 (σ 2) (σ 1 1)) (zt_n0 (σ 2) (σ 1 1))) → ¬ zt_oK (σ 2) (σ 1 1) (σ 3 2) (σ 3 1) (σ 3 0) ∧ σ75 1 2 = zt_oF (σ 2) (σ 1 1) (σ 3 2) (σ 3 1) (σ 3 0))) from ⟨fun h => absurd h (by omega), fun _ => ⟨fun d => absurd d (fun ⟨i, h0, h1, h2⟩ => by have z3 := zc_g3_3 hσ1 zc_s3; rw [hfσ75 3 _ (zc_out_at zc_s3 rfl), hfσ65 3 _ (zc_out_at zc_s3 rfl), hfσ58 3 _ (zc_out_at zc_s3 rfl), hfσ46 3 _ (zc_out_at zc_s3 rfl), hfσ39 3 _ (zc_out_at zc_s3 rfl), hfσ32 3 _ (zc_out_at zc_s3 rfl), hfσ20 3 _ (zc_out_at zc_s3 rfl), hfσ13 3 _ (zc_out_at zc_s3 rfl)] at h1; rw [hfσ75 10 _ (zc_out_ar zc_s10 rfl), hfσ65 10 _ (zc_out_ar zc_s10 rfl), hfσ58 10 _ (zc_out_ar zc_s10 rfl), hfσ46 10 _ (zc_out_ar zc_s10 rfl), hfσ39 10 _ (zc_out_ar zc_s10 rfl), hfσ32 10 _ (zc_out_ar zc_s10 rfl), hfσ20 10 _ (zc_out_ar zc_s10 rfl), hfσ13 10 _ (zc_out_ar zc_s10 rfl), hfσ75 (σ1 10 i) _ (zc_out_at (zc_ga10 hσ1 zc_s10 i (by omega) (by omega)) rfl), hfσ65 (σ1 10 i) _ (zc_out_at (zc_ga10 hσ1 zc_s10 i (by omega) (by omega)) rfl), hfσ58 (σ1 10 i) _ (zc_out_at (zc_ga10 hσ1 zc_s10 i (by omega) (by omega)) rfl), hfσ46 (σ1 10 i) _ (zc_out_at (zc_ga10 hσ1 zc_s10 i (by omega) (by omega)) rfl), hfσ39 (σ1 10 i) _ (zc_out_at (zc_ga10 hσ1 zc_s10 i (by omega) (by omega)) rfl), hfσ32 (σ1 10 i) _ (zc_out_at (zc_ga10 hσ1 zc_s10 i (by omega) (by omega)) rfl), hfσ20 (σ1 10 i) _ (zc_out_at (zc_ga10 hσ1 zc_s10 i (by omega) (by omega)) rfl), hfσ13 (σ1 10 i) _ (zc_out_at (zc_ga10 hσ1 zc_s10 i (by omega) (by omega)) rfl)] at h2; exact (wσ1.1 (by omega)).2.2 i h0 h1 h2), fun _ => by have o := zt_o9 (t := σ 2) (n := σ 1 1) (b := σ 3 2) (k := σ 3 1) (w := σ 3 0) y1 y2 y3 y4 y5 y6 y7 y8 (by omega); exact ⟨o.1, by rw [o.2]; omega⟩⟩⟩)⟩
                  · show V 82 [some (ZR 132)] [] 284 σ75
                    refine zr_iconst (pc := 82) hV 1 dX4_readOrder_82 rfl ?_
                    refine zr_goto (pc := 83) hV 87 dX4_readOrder_83 (by decide) ?_
                    show V 87 [some (ZR 132)] [ZI 1] 284 σ75
                    have t200 := zc_g1_2 hσ75 zc_s1
                    have t201 := zc_g3_3 hσ75 zc_s3
                    have t202 : σ75 3 3 = σ65 3 3 := hfσ75 _ _ (zc_out_at zc_s3 rfl)
                    have t203 : σ65 3 3 = σ58 3 3 := hfσ65 _ _ (zc_out_at zc_s3 rfl)
                    have t204 : σ58 3 3 = σ46 3 3 := hfσ58 _ _ (zc_out_at zc_s3 rfl)
                    have t205 : σ46 3 3 = σ39 3 3 := hfσ46 _ _ (zc_out_at zc_s3 rfl)
                    have t206 : σ39 3 3 = σ32 3 3 := hfσ39 _ _ (zc_out_at zc_s3 rfl)
                    have t207 : σ32 3 3 = σ20 3 3 := hfσ32 _ _ (zc_out_at zc_s3 rfl)
                    have t208 : σ20 3 3 = σ13 3 3 := hfσ20 _ _ (zc_out_at zc_s3 rfl)
                    have t209 : σ13 3 3 = σ1 3 3 := hfσ13 _ _ (zc_out_at zc_s3 rfl)
                    have t210 : σ1 3 3 = σ 3 3 := hfσ1 _ _ (zc_out_at zc_s3 rfl)
                    exact zr_zret (pc := 87) hV dX4_readOrder_87 rfl rfl (by omega) ⟨_, rfl, ⟨by decide, by decide⟩, hσ75, hFσ75, hOσ75, (by omega), (show ((1 : Int) = 1 → ¬ (∃ i, 0 ≤ i ∧ i < σ75 3 3 ∧ σ75 (σ75 10 i) 0 = zt_na (σ 2) (zt_z0 (σ 2) (σ 1 1)) (zt_n0 (σ 2) (σ 1 1))) ∧ zt_oK (σ 2) (σ 1 1) (σ 3 2) (σ 3 1) (σ 3 0) ∧ zt_cC σ75 sp (σ 2) (σ 1 1) (σ 3 2)) ∧ ((1 : Int) = 0 → ((∃ i, 0 ≤ i ∧ i < σ75 3 3 ∧ σ75 (σ75 10 i) 0 = zt_na (σ 2) (zt_z0 (σ 2) (σ 1 1)) (zt_n0 (σ 2) (σ 1 1))) → σ75 1 2 = (zt_z0 (σ 2) (σ 1 1))) ∧ (¬ (∃ i, 0 ≤ i ∧ i < σ75 3 3 ∧ σ75 (σ75 10 i) 0 = zt_na (σ 2) (zt_z0 (σ 2) (σ 1 1)) (zt_n0 (σ 2) (σ 1 1))) → ¬ zt_oK (σ 2) (σ 1 1) (σ 3 2) (σ 3 1) (σ 3 0) ∧ σ75 1 2 = zt_oF (σ 2) (σ 1 1) (σ 3 2) (σ 3 1) (σ 3 0))) from ⟨fun _ => ⟨(fun ⟨i, h0, h1, h2⟩ => by have z3 := zc_g3_3 hσ1 zc_s3; rw [hfσ75 3 _ (zc_out_at zc_s3 rfl), hfσ65 3 _ (zc_out_at zc_s3 rfl), hfσ58 3 _ (zc_out_at zc_s3 rfl), hfσ46 3 _ (zc_out_at zc_s3 rfl), hfσ39 3 _ (zc_out_at zc_s3 rfl), hfσ32 3 _ (zc_out_at zc_s3 rfl), hfσ20 3 _ (zc_out_at zc_s3 rfl), hfσ13 3 _ (zc_out_at zc_s3 rfl)] at h1; rw [hfσ75 10 _ (zc_out_ar zc_s10 rfl), hfσ65 10 _ (zc_out_ar zc_s10 rfl), hfσ58 10 _ (zc_out_ar zc_s10 rfl), hfσ46 10 _ (zc_out_ar zc_s10 rfl), hfσ39 10 _ (zc_out_ar zc_s10 rfl), hfσ32 10 _ (zc_out_ar zc_s10 rfl), hfσ20 10 _ (zc_out_ar zc_s10 rfl), hfσ13 10 _ (zc_out_ar zc_s10 rfl), hfσ75 (σ1 10 i) _ (zc_out_at (zc_ga10 hσ1 zc_s10 i (by omega) (by omega)) rfl), hfσ65 (σ1 10 i) _ (zc_out_at (zc_ga10 hσ1 zc_s10 i (by omega) (by omega)) rfl), hfσ58 (σ1 10 i) _ (zc_out_at (zc_ga10 hσ1 zc_s10 i (by omega) (by omega)) rfl), hfσ46 (σ1 10 i) _ (zc_out_at (zc_ga10 hσ1 zc_s10 i (by omega) (by omega)) rfl), hfσ39 (σ1 10 i) _ (zc_out_at (zc_ga10 hσ1 zc_s10 i (by omega) (by omega)) rfl), hfσ32 (σ1 10 i) _ (zc_out_at (zc_ga10 hσ1 zc_s10 i (by omega) (by omega)) rfl), hfσ20 (σ1 10 i) _ (zc_out_at (zc_ga10 hσ1 zc_s10 i (by omega) (by omega)) rfl), hfσ13 (σ1 10 i) _ (zc_out_at (zc_ga10 hσ1 zc_s10 i (by omega) (by omega)) rfl)] at h2; exact (wσ1.1 (by omega)).2.2 i h0 h1 h2), ⟨y1, y2, y3, y4, y5, y6, y7, y8, by omega⟩, ⟨by rw [hfσ75 sp _ (zc_out_at ksp rfl), hfσ65 sp _ (zc_out_at ksp rfl), hfσ58 sp _ (zc_out_at ksp rfl), hfσ46 sp _ (zc_out_at ksp rfl), hfσ39 sp _ (zc_out_at ksp rfl), hfσ32 sp _ (zc_out_at ksp rfl), hfσ20 sp _ (zc_out_at ksp rfl), hfσ13 sp _ (zc_out_at ksp rfl)]; exact (wσ1.1 (by omega)).1, by rw [hfσ75 sp _ (zc_out_at ksp rfl), hfσ65 sp _ (zc_out_at ksp rfl), hfσ58 sp _ (zc_out_at ksp rfl), hfσ46 sp _ (zc_out_at ksp rfl), hfσ39 sp _ (zc_out_at ksp rfl), hfσ32 sp _ (zc_out_at ksp rfl)]; exact v3.1, by rw [hfσ75 sp _ (zc_out_at ksp rfl), hfσ65 sp _ (zc_out_at ksp rfl), hfσ58 sp _ (zc_out_at ksp rfl), hfσ46 sp _ (zc_out_at ksp rfl), hfσ39 sp _ (zc_out_at ksp rfl), hfσ32 sp _ (zc_out_at ksp rfl)]; exact v3.2.1, fun f h0 h3 => by rw [hfσ75 (sp + 1) _ (zc_out_ar (zc_p4_1 ksp) rfl), hfσ65 (sp + 1) _ (zc_out_ar (zc_p4_1 ksp) rfl), hfσ58 (sp + 1) _ (zc_out_ar (zc_p4_1 ksp) rfl), hfσ46 (sp + 1) _ (zc_out_ar (zc_p4_1 ksp) rfl), hfσ39 (sp + 1) _ (zc_out_ar (zc_p4_1 ksp) rfl), hfσ32 (sp + 1) _ (zc_out_ar (zc_p4_1 ksp) rfl)]; exact m3 f h0 h3, by rw [hfσ75 sp _ (zc_out_at ksp rfl), hfσ65 sp _ (zc_out_at ksp rfl), hfσ58 sp _ (zc_out_at ksp rfl), hfσ46 sp _ (zc_out_at ksp rfl)]; exact v5.1, by rw [hfσ75 sp _ (zc_out_at ksp rfl), hfσ65 sp _ (zc_out_at ksp rfl), hfσ58 sp _ (zc_out_at ksp rfl), hfσ46 sp _ (zc_out_at ksp rfl)]; exact v5.2.1, by rw [hfσ75 sp _ (zc_out_at ksp rfl), hfσ65 sp _ (zc_out_at ksp rfl), hfσ58 sp _ (zc_out_at ksp rfl)]; exact v6.1, fun i h0 h1 => by rw [hfσ75 (sp + 2) _ (zc_out_ar (zc_p4_2 ksp) rfl), hfσ65 (sp + 2) _ (zc_out_ar (zc_p4_2 ksp) rfl), hfσ58 (sp + 2) _ (zc_out_ar (zc_p4_2 ksp) rfl), hfσ75 (sp + 3) _ (zc_out_ar (zc_p4_3 ksp) rfl), hfσ65 (sp + 3) _ (zc_out_ar (zc_p4_3 ksp) rfl), hfσ58 (sp + 3) _ (zc_out_ar (zc_p4_3 ksp) rfl), hfσ75 (sp + 4) _ (zc_out_ar (zc_p4_4 ksp) rfl), hfσ65 (sp + 4) _ (zc_out_ar (zc_p4_4 ksp) rfl), hfσ58 (sp + 4) _ (zc_out_ar (zc_p4_4 ksp) rfl), hfσ75 (sp + 5) _ (zc_out_ar (zc_p4_5 ksp) rfl), hfσ65 (sp + 5) _ (zc_out_ar (zc_p4_5 ksp) rfl), hfσ58 (sp + 5) _ (zc_out_ar (zc_p4_5 ksp) rfl)]; exact v6.2.1 i h0 h1, by rw [hfσ75 sp _ (zc_out_at ksp rfl)]; exact v8, by rw [hfσ75 sp _ (zc_out_at ksp rfl), hfσ65 sp _ (zc_out_at ksp rfl), hfσ58 sp _ (zc_out_at ksp rfl)]; have q := v6.2.2.1; rw [v5.2.2, show σ32 sp 12 = 0 by rw [hfσ32 sp _ (zc_out_at ksp rfl), hfσ20 sp _ (zc_out_at ksp rfl), hfσ13 sp _ (zc_out_at ksp rfl)]; omega] at q; exact q, by rw [hfσ75 sp _ (zc_out_at ksp rfl), hfσ65 sp _ (zc_out_at ksp rfl), hfσ58 sp _ (zc_out_at ksp rfl)]; have q := v6.2.2.2; rw [show σ39 sp 13 = 0 by rw [hfσ39 sp _ (zc_out_at ksp rfl), hfσ32 sp _ (zc_out_at ksp rfl), hfσ20 sp _ (zc_out_at ksp rfl), hfσ13 sp _ (zc_out_at ksp rfl)]; omega] at q; exact q, by rw [hfσ75 sp _ (zc_out_at ksp rfl), hfσ65 sp _ (zc_out_at ksp rfl), hfσ58 sp _ (zc_out_at ksp rfl), hfσ46 sp _ (zc_out_at ksp rfl), hfσ39 sp _ (zc_out_at ksp rfl), hfσ32 sp _ (zc_out_at ksp rfl), hfσ20 sp _ (zc_out_at ksp rfl), hfσ13 sp _ (zc_out_at ksp rfl)]; omega, by rw [hfσ75 sp _ (zc_out_at ksp rfl), hfσ65 sp _ (zc_out_at ksp rfl), hfσ58 sp _ (zc_out_at ksp rfl), hfσ46 sp _ (zc_out_at ksp rfl), hfσ39 sp _ (zc_out_at ksp rfl), hfσ32 sp _ (zc_out_at ksp rfl), hfσ20 sp _ (zc_out_at ksp rfl), hfσ13 sp _ (zc_out_at ksp rfl)]; omega⟩⟩, fun h => absurd h (by omega)⟩)⟩
