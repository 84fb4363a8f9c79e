set_option maxHeartbeats 800000 in
theorem c_X11_reads_2 {σ : zq_S} (hσ : zc_T σ) (order : Int) (q0 : zq_in order) (q1 : zq_hid (zn_OK σ)) (Uσ : zc_U σ) : zq_C zc_w yX11_reads cX11_reads 3 (some .int) 7 162 284 284 [ZR 0, ZI order] σ (zq_pi (fun r τ => zc_T τ ∧ zc_Fr [(4, 15), (134, 5), (135, -1), (136, -1), (137, -1), (138, -1)] σ τ ∧ (True) ∧ zq_hid ((¬ (0 ≤ order ∧ order < σ 3 3) → r = -1 ∧ ∀ a i, τ a i = σ a i) ∧ (0 ≤ order ∧ order < σ 3 3 → r = zn_bs (zn_P (zw_ra σ (σ 10 order)) 0 (σ (σ 10 order) 4) (σ (σ 10 order) 5) (σ (σ 10 order) 6)) 9 ∧ τ (σ 10 order) 15 = r ∧ ∀ b, zc_kd b = 4 → b ≠ σ 10 order → τ b 15 = σ b 15)) ∧ zc_U τ)) := by
  refine zq_C_of (by decide) (Nat.le_refl _) (Nat.le_of_ble_eq_true rfl) [some (ZR 0), some (ZI order), none] rfl (fun V hV => ?_)
  have hFσ := zc_Fr_rf [(4, 15), (134, 5), (135, -1), (136, -1), (137, -1), (138, -1)] σ
  show V 0 [some (ZR 0), some (ZI order), none] [] 284 σ
  refine zr_aload_n (pc := 0) hV dX11_reads_0 rfl rfl ?_
  refine zr_getR (pc := 1) hV 1 3 dX11_reads_1 fX11_19 rfl rfl (zc_k0 zc_s0) (zc_pos zc_s0 rfl) (zc_g0_1 hσ zc_s0) (by decide) ?_
  refine zr_iload_n (pc := 4) hV dX11_reads_4 rfl rfl ?_
  refine zr_callVr (pc := 5) hV [ZI order] (st := []) (c_X9_numbered_2 (σ := σ) hσ order (by omega)) dX11_reads_5 mX11_117 (zc_k3 zc_s3) (zc_pos zc_s3 rfl) (by decide) (Nat.le_of_ble_eq_true rfl) (Nat.le_refl _) (fun r5 pr5 => ?_)
  refine zr_astore_nQ (pc := 8) hV [some (ZR 0), some (ZI order), some (zq_nr r5)] dX11_reads_8 rfl (by decide) rfl rfl ?_
  refine zr_aload_nQ (pc := 9) hV dX11_reads_9 rfl rfl ?_
  by_cases c1 : r5 < 0
  · rw [zq_nr_n c1]
    refine zr_ifnonnullN (pc := 10) hV dX11_reads_10 ?_
    show V 13 [some (ZR 0), some (ZI order), some (ZN)] [] 284 σ
    refine zr_iconst (pc := 13) hV (-1) dX11_reads_13 rfl ?_
    refine zr_goto (pc := 14) hV 25 dX11_reads_14 (by decide) ?_
    show V 25 [some (ZR 0), some (ZI order), some (ZN)] [ZI (-1)] 284 σ
    exact zr_iret (pc := 25) hV dX11_reads_25 rfl rfl ⟨_, rfl, ⟨by decide, by decide⟩, hσ, hFσ, trivial, (show (¬ (0 ≤ order ∧ order < σ 3 3) → ((-1) : Int) = -1 ∧ ∀ a i, σ a i = σ a i) ∧ (0 ≤ order ∧ order < σ 3 3 → ((-1) : Int) = zn_bs (zn_P (zw_ra σ (σ 10 order)) 0 (σ (σ 10 order) 4) (σ (σ 10 order) 5) (σ (σ 10 order) 6)) 9 ∧ σ (σ 10 order) 15 = ((-1) : Int) ∧ ∀ b, zc_kd b = 4 → b ≠ σ 10 order → σ b 15 = σ b 15) from ⟨fun _ => ⟨rfl, fun _ _ => rfl⟩, fun h => absurd h (pr5.2.2 (by omega))⟩), Uσ⟩
  · rw [zq_nr_p c1]
    have kr5 : zc_kd r5 = 4 := pr5.1 (by omega)
    have por5 := zc_pos kr5 rfl
    refine zr_ifnonnull (pc := 10) hV 17 dX11_reads_10 (by decide) ?_
    show V 17 [some (ZR 0), some (ZI order), some (ZR r5)] [] 284 σ
    have u5 := pr5.2.1 (by omega)
    have k5 := q1.2 order u5.1 u5.2.1
    rw [← u5.2.2] at k5
    refine zr_aload_n (pc := 17) hV dX11_reads_17 rfl rfl ?_
    refine zr_getR (pc := 18) hV 3 134 dX11_reads_18 fX11_35 rfl rfl (zc_k0 zc_s0) (zc_pos zc_s0 rfl) (zc_g0_3 hσ zc_s0) (by decide) ?_
    refine zr_aload_n (pc := 21) hV dX11_reads_21 rfl rfl ?_
    have t2 := zc_g134_0 hσ zc_s134
    have t3 := zc_g4_15 hσ kr5
    have t4 := zc_g4_4 hσ kr5
    have t5 := zc_g4_5 hσ kr5
    have t6 := zc_g4_6 hσ kr5
    have t7 := zc_g4_12 hσ kr5
    have t8 := zc_g4_4 hσ kr5
    have t9 := zc_g4_5 hσ kr5
    have t10 := zc_g4_6 hσ kr5
    refine zr_callVi (pc := 22) hV [ZR r5] (st := []) (c_X2_whatReads_2 (σ := σ) hσ r5 kr5 k5.1 q1.1 k5.2.1 k5.2.2.2.1) dX11_reads_22 mX11_162 (zc_k134 zc_s134) (zc_pos zc_s134 rfl) (by decide) (Nat.le_of_ble_eq_true rfl) (Nat.le_refl _) (fun r22 σ22 hr22 pσ22 => ?_)
    obtain ⟨hσ22, hfσ22, pσ22, wσ22⟩ := pσ22
    have hFσ22 := zc_Fc hfσ22 rfl hFσ
    have Uσ22 : zc_U σ22 := zc_U_fr hfσ22 rfl hσ Uσ
    have t11 := zc_g4_4 hσ kr5
    have t12 := zc_g4_5 hσ kr5
    have t13 := zc_g4_6 hσ kr5
    show V 25 [some (ZR 0), some (ZI order), some (ZR r5)] [ZI r22] 284 σ22
    exact zr_iret (pc := 25) hV dX11_reads_25 rfl rfl ⟨_, rfl, (by omega), hσ22, hFσ22, trivial, (show (¬ (0 ≤ order ∧ order < σ 3 3) → r22 = -1 ∧ ∀ a i, σ22 a i = σ a i) ∧ (0 ≤ order ∧ order < σ 3 3 → r22 = zn_bs (zn_P (zw_ra σ (σ 10 order)) 0 (σ (σ 10 order) 4) (σ (σ 10 order) 5) (σ (σ 10 order) 6)) 9 ∧ σ22 (σ 10 order) 15 = r22 ∧ ∀ b, zc_kd b = 4 → b ≠ σ 10 order → σ22 b 15 = σ b 15) from ⟨fun h => absurd ⟨u5.1, u5.2.1⟩ h, fun _ => by rw [← u5.2.2]; exact wσ22⟩), Uσ22⟩
set_option maxHeartbeats 800000 in
theorem c_X11_writes_2 {σ : zq_S} (hσ : zc_T σ) (order : Int) (q0 : zq_in order) (q1 : zq_hid (zn_OK σ)) (Uσ : zc_U σ) : zq_C zc_w yX11_writes cX11_writes 3 (some .int) 7 155 284 284 [ZR 0, ZI order] σ (zq_pi (fun r τ => zc_T τ ∧ zc_Fr [(4, 16), (134, 5), (135, -1), (136, -1), (138, -1)] σ τ ∧ (True) ∧ zq_hid ((¬ (0 ≤ order ∧ order < σ 3 3) → r = -1 ∧ ∀ a i, τ a i = σ a i) ∧ (0 ≤ order ∧ order < σ 3 3 → zn_Wm (zw_ra σ (σ 10 order)) 0 (σ (σ 10 order) 4) (σ (σ 10 order) 5) (σ (σ 10 order) 6) r ∧ τ (σ 10 order) 16 = r ∧ ∀ b, zc_kd b = 4 → b ≠ σ 10 order → τ b 16 = σ b 16)) ∧ zc_U τ)) := by
  refine zq_C_of (by decide) (Nat.le_refl _) (Nat.le_of_ble_eq_true rfl) [some (ZR 0), some (ZI order), none] rfl (fun V hV => ?_)
  have hFσ := zc_Fr_rf [(4, 16), (134, 5), (135, -1), (136, -1), (138, -1)] σ
  show V 0 [some (ZR 0), some (ZI order), none] [] 284 σ
  refine zr_aload_n (pc := 0) hV dX11_writes_0 rfl rfl ?_
  refine zr_getR (pc := 1) hV 1 3 dX11_writes_1 fX11_19 rfl rfl (zc_k0 zc_s0) (zc_pos zc_s0 rfl) (zc_g0_1 hσ zc_s0) (by decide) ?_
  refine zr_iload_n (pc := 4) hV dX11_writes_4 rfl rfl ?_
  refine zr_callVr (pc := 5) hV [ZI order] (st := []) (c_X9_numbered_2 (σ := σ) hσ order (by omega)) dX11_writes_5 mX11_117 (zc_k3 zc_s3) (zc_pos zc_s3 rfl) (by decide) (Nat.le_of_ble_eq_true rfl) (Nat.le_refl _) (fun r5 pr5 => ?_)
  refine zr_astore_nQ (pc := 8) hV [some (ZR 0), some (ZI order), some (zq_nr r5)] dX11_writes_8 rfl (by decide) rfl rfl ?_
  refine zr_aload_nQ (pc := 9) hV dX11_writes_9 rfl rfl ?_
  by_cases c1 : r5 < 0
  · rw [zq_nr_n c1]
    refine zr_ifnonnullN (pc := 10) hV dX11_writes_10 ?_
    show V 13 [some (ZR 0), some (ZI order), some (ZN)] [] 284 σ
    refine zr_iconst (pc := 13) hV (-1) dX11_writes_13 rfl ?_
    refine zr_goto (pc := 14) hV 25 dX11_writes_14 (by decide) ?_
    show V 25 [some (ZR 0), some (ZI order), some (ZN)] [ZI (-1)] 284 σ
    exact zr_iret (pc := 25) hV dX11_writes_25 rfl rfl ⟨_, rfl, ⟨by decide, by decide⟩, hσ, hFσ, trivial, (show (¬ (0 ≤ order ∧ order < σ 3 3) → ((-1) : Int) = -1 ∧ ∀ a i, σ a i = σ a i) ∧ (0 ≤ order ∧ order < σ 3 3 → zn_Wm (zw_ra σ (σ 10 order)) 0 (σ (σ 10 order) 4) (σ (σ 10 order) 5) (σ (σ 10 order) 6) ((-1) : Int) ∧ σ (σ 10 order) 16 = ((-1) : Int) ∧ ∀ b, zc_kd b = 4 → b ≠ σ 10 order → σ b 16 = σ b 16) from ⟨fun _ => ⟨rfl, fun _ _ => rfl⟩, fun h => absurd h (pr5.2.2 (by omega))⟩), Uσ⟩
  · rw [zq_nr_p c1]
    have kr5 : zc_kd r5 = 4 := pr5.1 (by omega)
    have por5 := zc_pos kr5 rfl
    refine zr_ifnonnull (pc := 10) hV 17 dX11_writes_10 (by decide) ?_
    show V 17 [some (ZR 0), some (ZI order), some (ZR r5)] [] 284 σ
    have u5 := pr5.2.1 (by omega)
    have k5 := q1.2 order u5.1 u5.2.1
    rw [← u5.2.2] at k5
    refine zr_aload_n (pc := 17) hV dX11_writes_17 rfl rfl ?_
    refine zr_getR (pc := 18) hV 3 134 dX11_writes_18 fX11_35 rfl rfl (zc_k0 zc_s0) (zc_pos zc_s0 rfl) (zc_g0_3 hσ zc_s0) (by decide) ?_
    refine zr_aload_n (pc := 21) hV dX11_writes_21 rfl rfl ?_
    have t2 := zc_g134_0 hσ zc_s134
    have t3 := zc_g4_16 hσ kr5
    have t4 := zc_g4_4 hσ kr5
    have t5 := zc_g4_5 hσ kr5
    have t6 := zc_g4_6 hσ kr5
    have t7 := zc_g4_13 hσ kr5
    have t8 := zc_g4_4 hσ kr5
    have t9 := zc_g4_5 hσ kr5
    have t10 := zc_g4_6 hσ kr5
    refine zr_callVi (pc := 22) hV [ZR r5] (st := []) (c_X2_whatWrites_2 (σ := σ) hσ r5 kr5 k5.1 q1.1 k5.2.2.1 k5.2.2.2.2) dX11_writes_22 mX11_166 (zc_k134 zc_s134) (zc_pos zc_s134 rfl) (by decide) (Nat.le_of_ble_eq_true rfl) (Nat.le_refl _) (fun r22 σ22 hr22 pσ22 => ?_)
    obtain ⟨hσ22, hfσ22, pσ22, wσ22⟩ := pσ22
    have hFσ22 := zc_Fc hfσ22 rfl hFσ
    have Uσ22 : zc_U σ22 := zc_U_fr hfσ22 rfl hσ Uσ
    have t11 := zc_g4_4 hσ kr5
    have t12 := zc_g4_5 hσ kr5
    have t13 := zc_g4_6 hσ kr5
    show V 25 [some (ZR 0), some (ZI order), some (ZR r5)] [ZI r22] 284 σ22
    exact zr_iret (pc := 25) hV dX11_writes_25 rfl rfl ⟨_, rfl, (by omega), hσ22, hFσ22, trivial, (show (¬ (0 ≤ order ∧ order < σ 3 3) → r22 = -1 ∧ ∀ a i, σ22 a i = σ a i) ∧ (0 ≤ order ∧ order < σ 3 3 → zn_Wm (zw_ra σ (σ 10 order)) 0 (σ (σ 10 order) 4) (σ (σ 10 order) 5) (σ (σ 10 order) 6) r22 ∧ σ22 (σ 10 order) 16 = r22 ∧ ∀ b, zc_kd b = 4 → b ≠ σ 10 order → σ22 b 16 = σ b 16) from ⟨fun h => absurd ⟨u5.1, u5.2.1⟩ h, fun _ => by rw [← u5.2.2]; exact wσ22⟩), Uσ22⟩
