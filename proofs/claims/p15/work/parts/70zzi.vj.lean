set_option maxHeartbeats 800000 in
theorem c_X11_reads_2 {σ : zq_S} (hσ : zc_T σ) (order : Int) (q0 : zq_in order) (q1 : zq_hid (zn_OK σ)) (Uσ : zc_U σ) : zq_C zc_w yX11_reads cX11_reads 3 (some .int) 7 162 284 284 [ZR 0, ZI order] σ (zq_pi (fun r τ => zc_T τ ∧ zc_Fr [(4, 15), (134, 5), (135, -1), (136, -1), (137, -1), (138, -1)] σ τ ∧ (True) ∧ zq_hid ((¬ (0 ≤ order ∧ order < σ 3 3) → r = -1 ∧ ∀ a i, τ a i = σ a i) ∧ (0 ≤ order ∧ order < σ 3 3 → r = zn_bs (zn_P (zw_ra σ (σ 10 order)) 0 (σ (σ 10 order) 4) (σ (σ 10 order) 5) (σ (σ 10 order) 6)) 9 ∧ τ (σ 10 order) 15 = r ∧ ∀ b, zc_kd b = 4 → b ≠ σ 10 order → τ b 15 = σ b 15)) ∧ zc_U τ)) := by
  refine zq_C_of (by decide) (Nat.le_refl _) (Nat.le_of_ble_eq_true rfl) [some (ZR 0), some (ZI order), none] rfl (fun V hV => ?_)
  have hFσ := zc_Fr_rf [(4, 15), (134, 5), (135, -1), (136, -1), (137, -1), (138, -1)] σ
  show V 0 [some (ZR 0), some (ZI order), none] [] 284 σ
  refine zr_aload_n (pc := 0) hV dX11_reads_0 rfl rfl ?_
  refine zr_getR (pc := 1) hV 1 3 dX11_reads_1 fX11_19 rfl rfl (zc_k0 zc_s0) (zc_pos zc_s0 rfl) (zc_g0_1 hσ zc_s0) (by decide) ?_
  refine zr_iload_n (pc := 4) hV dX11_reads_4 rfl rfl ?_
  refine zr_callVr (pc := 5) hV [ZI order] (st := []) (c_X9_numbered_2 (σ := σ) hσ order (by omega)) dX11_reads_5 mX11_117 (zc_k3 zc_s3) (zc_pos zc_s3 rfl) (by decide) (Nat.le_of_ble_eq_true rfl) (Nat.le_refl _) (fun r5 pr5 => ?_)
  refine zr_astore_nQ (pc := 8) hV [some (ZR 0), some (ZI order), some (zq_nr r5)] dX11_reads_8 rfl (by decide) rfl rfl ?_
  refine zr_aload_nQ (pc := 9) hV dX11_reads_9 rfl rfl ?_
  by_cases c1 : r5 < 0
  · rw [zq_nr_n c1]
    refine zr_ifnonnullN (pc := 10) hV dX11_reads_10 ?_
    show V 13 [some (ZR 0), some (ZI order), some (ZN)] [] 284 σ
    refine zr_iconst (pc := 13) hV (-1) dX11_reads_13 rfl ?_
    refine zr_goto (pc := 14) hV 25 dX11_reads_14 (by decide) ?_
    show V 25 [some (ZR 0), some (ZI order), some (ZN)] [ZI (-1)] 284 σ
    exact zr_iret (pc := 25) hV dX11_reads_25 rfl rfl ⟨_, rfl, ⟨by decide, by decide⟩, hσ, hFσ, trivial, (show (¬ (0 ≤ order ∧ order < σ 3 3) → ((-1) : Int) = -1 ∧ ∀ a i, σ a i = σ a i) ∧ (0 ≤ order ∧ order < σ 3 3 → ((-1) : Int) = zn_bs (zn_P (zw_ra σ (σ 10 order)) 0 (σ (σ 10 order) 4) (σ (σ 10 order) 5) (σ (σ 10 order) 6)) 9 ∧ σ (σ 10 order) 15 = ((-1) : Int) ∧ ∀ b, zc_kd b = 4 → b ≠ σ 10 order → σ b 15 = σ b 15) from ⟨fun _ => ⟨rfl, fun _ _ => rfl⟩, fun h => absurd h (pr5.2.2 (by omega))⟩), Uσ⟩
  · rw [zq_nr_p c1]
    have kr5 : zc_kd r5 = 4 := pr5.1 (by omega)
    have por5 := zc_pos kr5 rfl
    refine zr_ifnonnull (pc := 10) hV 17 dX11_reads_10 (by decide) ?_
    show V 17 [some (ZR 0), some (ZI order), some (ZR r5)] [] 284 σ
    have u5 := pr5.2.1 (by omega)
    have k5 := q1.2 order u5.1 u5.2.1
    rw [← u5.2.2] at k5
    refine zr_aload_n (pc := 17) hV dX11_reads_17 rfl rfl ?_
    refine zr_getR (pc := 18) hV 3 134 dX11_reads_18 fX11_35 rfl rfl (zc_k0 zc_s0) (zc_pos zc_s0 rfl) (zc_g0_3 hσ zc_s0) (by decide) ?_
    refine zr_aload_n (pc := 21) hV dX11_reads_21 rfl rfl ?_
    have t2 := zc_g134_0 hσ zc_s134
    have t3 := zc_g4_15 hσ kr5
    have t4 := zc_g4_4 hσ kr5
    have t5 := zc_g4_5 hσ kr5
    have t6 := zc_g4_6 hσ kr5
    have t7 := zc_g4_12 hσ kr5
    have t8 := zc_g4_4 hσ kr5
    have t9 := zc_g4_5 hσ kr5
    have t10 := zc_g4_6 hσ kr5
    refine zr_callVi (pc := 22) hV [ZR r5] (st := []) (c_X2_whatReads_2 (σ := σ) hσ r5 kr5 k5.1 q1.1 k5.2.1 k5.2.2.2.1) dX11_reads_22 mX11_162 (zc_k134 zc_s134) (zc_pos zc_s134 rfl) (by decide) (Nat.le_of_ble_eq_true rfl) (Nat.le_refl _) (fun r22 σ22 hr22 pσ22 => ?_)
    obtain ⟨hσ22, hfσ22, pσ22, wσ22⟩ := pσ22
    have hFσ22 := zc_Fc hfσ22 rfl hFσ
    have Uσ22 : zc_U σ22 := zc_U_fr hfσ22 rfl hσ Uσ
    have t11 := zc_g4_4 hσ kr5
    have t12 := zc_g4_5 hσ kr5
    have t13 := zc_g4_6 hσ kr5
    show V 25 [some (ZR 0), some (ZI order), some (ZR r5)] [ZI r22] 284 σ22
    exact zr_iret (pc := 25) hV dX11_reads_25 rfl rfl ⟨_, rfl, (by omega), hσ22, hFσ22, trivial, (show (¬ (0 ≤ order ∧ order < σ 3 3) → r22 = -1 ∧ ∀ a i, σ22 a i = σ a i) ∧ (0 ≤ order ∧ order < σ 3 3 → r22 = zn_bs (zn_P (zw_ra σ (σ 10 order)) 0 (σ (σ 10 order) 4) (σ (σ 10 order) 5) (σ (σ 10 order) 6)) 9 ∧ σ22 (σ 10 order) 15 = r22 ∧ ∀ b, zc_kd b = 4 → b ≠ σ 10 order → σ22 b 15 = σ b 15) from ⟨fun h => absurd ⟨u5.1, u5.2.1⟩ h, fun _ => by rw [← u5.2.2]; exact wσ22⟩), Uσ22⟩
set_option maxHeartbeats 800000 in
theorem c_X11_writes_2 {σ : zq_S} (hσ : zc_T σ) (order : Int) (q0 : zq_in order) (q1 : zq_hid (zn_OK σ)) (Uσ : zc_U σ) : zq_C zc_w yX11_writes cX11_writes 3 (some .int) 7 155 284 284 [ZR 0, ZI order] σ (zq_pi (fun r τ => zc_T τ ∧ zc_Fr [(4, 16), (134, 5), (135, -1), (136, -1), (138, -1)] σ τ ∧ (True) ∧ zq_hid ((¬ (0 ≤ order ∧ order < σ 3 3) → r = -1 ∧ ∀ a i, τ a i = σ a i) ∧ (0 ≤ order ∧ order < σ 3 3 → zn_Wm (zw_ra σ (σ 10 order)) 0 (σ (σ 10 order) 4) (σ (σ 10 order) 5) (σ (σ 10 order) 6) r ∧ τ (σ 10 order) 16 = r ∧ ∀ b, zc_kd b = 4 → b ≠ σ 10 order → τ b 16 = σ b 16)) ∧ zc_U τ)) := by
  refine zq_C_of (by decide) (Nat.le_refl _) (Nat.le_of_ble_eq_true rfl) [some (ZR 0), some (ZI order), none] rfl (fun V hV => ?_)
  have hFσ := zc_Fr_rf [(4, 16), (134, 5), (135, -1), (136, -1), (138, -1)] σ
  show V 0 [some (ZR 0), some (ZI order), none] [] 284 σ
  refine zr_aload_n (pc := 0) hV dX11_writes_0 rfl rfl ?_
  refine zr_getR (pc := 1) hV 1 3 dX11_writes_1 fX11_19 rfl rfl (zc_k0 zc_s0) (zc_pos zc_s0 rfl) (zc_g0_1 hσ zc_s0) (by decide) ?_
  refine zr_iload_n (pc := 4) hV dX11_writes_4 rfl rfl ?_
  refine zr_callVr (pc := 5) hV [ZI order] (st := []) (c_X9_numbered_2 (σ := σ) hσ order (by omega)) dX11_writes_5 mX11_117 (zc_k3 zc_s3) (zc_pos zc_s3 rfl) (by decide) (Nat.le_of_ble_eq_true rfl) (Nat.le_refl _) (fun r5 pr5 => ?_)
  refine zr_astore_nQ (pc := 8) hV [some (ZR 0), some (ZI order), some (zq_nr r5)] dX11_writes_8 rfl (by decide) rfl rfl ?_
  refine zr_aload_nQ (pc := 9) hV dX11_writes_9 rfl rfl ?_
  by_cases c1 : r5 < 0
  · rw [zq_nr_n c1]
    refine zr_ifnonnullN (pc := 10) hV dX11_writes_10 ?_
    show V 13 [some (ZR 0), some (ZI order), some (ZN)] [] 284 σ
    refine zr_iconst (pc := 13) hV (-1) dX11_writes_13 rfl ?_
    refine zr_goto (pc := 14) hV 25 dX11_writes_14 (by decide) ?_
    show V 25 [some (ZR 0), some (ZI order), some (ZN)] [ZI (-1)] 284 σ
    exact zr_iret (pc := 25) hV dX11_writes_25 rfl rfl ⟨_, rfl, ⟨by decide, by decide⟩, hσ, hFσ, trivial, (show (¬ (0 ≤ order ∧ order < σ 3 3) → ((-1) : Int) = -1 ∧ ∀ a i, σ a i = σ a i) ∧ (0 ≤ order ∧ order < σ 3 3 → zn_Wm (zw_ra σ (σ 10 order)) 0 (σ (σ 10 order) 4) (σ (σ 10 order) 5) (σ (σ 10 order) 6) ((-1) : Int) ∧ σ (σ 10 order) 16 = ((-1) : Int) ∧ ∀ b, zc_kd b = 4 → b ≠ σ 10 order → σ b 16 = σ b 16) from ⟨fun _ => ⟨rfl, fun _ _ => rfl⟩, fun h => absurd h (pr5.2.2 (by omega))⟩), Uσ⟩
  · rw [zq_nr_p c1]
    have kr5 : zc_kd r5 = 4 := pr5.1 (by omega)
    have por5 := zc_pos kr5 rfl
    refine zr_ifnonnull (pc := 10) hV 17 dX11_writes_10 (by decide) ?_
    show V 17 [some (ZR 0), some (ZI order), some (ZR r5)] [] 284 σ
    have u5 := pr5.2.1 (by omega)
    have k5 := q1.2 order u5.1 u5.2.1
    rw [← u5.2.2] at k5
    refine zr_aload_n (pc := 17) hV dX11_writes_17 rfl rfl ?_
    refine zr_getR (pc := 18) hV 3 134 dX11_writes_18 fX11_35 rfl rfl (zc_k0 zc_s0) (zc_pos zc_s0 rfl) (zc_g0_3 hσ zc_s0) (by decide) ?_
    refine zr_aload_n (pc := 21) hV dX11_writes_21 rfl rfl ?_
    have t2 := zc_g134_0 hσ zc_s134
    have t3 := zc_g4_16 hσ kr5
    have t4 := zc_g4_4 hσ kr5
    have t5 := zc_g4_5 hσ kr5
    have t6 := zc_g4_6 hσ kr5
    have t7 := zc_g4_13 hσ kr5
    have t8 := zc_g4_4 hσ kr5
    have t9 := zc_g4_5 hσ kr5
    have t10 := zc_g4_6 hσ kr5
    refine zr_callVi (pc := 22) hV [ZR r5] (st := []) (c_X2_whatWrites_2 (σ := σ) hσ r5 kr5 k5.1 q1.1 k5.2.2.1 k5.2.2.2.2) dX11_writes_22 mX11_166 (zc_k134 zc_s134) (zc_pos zc_s134 rfl) (by decide) (Nat.le_of_ble_eq_true rfl) (Nat.le_refl _) (fun r22 σ22 hr22 pσ22 => ?_)
    obtain ⟨hσ22, hfσ22, pσ22, wσ22⟩ := pσ22
    have hFσ22 := zc_Fc hfσ22 rfl hFσ
    have Uσ22 : zc_U σ22 := zc_U_fr hfσ22 rfl hσ Uσ
    have t11 := zc_g4_4 hσ kr5
    have t12 := zc_g4_5 hσ kr5
    have t13 := zc_g4_6 hσ kr5
    show V 25 [some (ZR 0), some (ZI order), some (ZR r5)] [ZI r22] 284 σ22
    exact zr_iret (pc := 25) hV dX11_writes_25 rfl rfl ⟨_, rfl, (by omega), hσ22, hFσ22, trivial, (show (¬ (0 ≤ order ∧ order < σ 3 3) → r22 = -1 ∧ ∀ a i, σ22 a i = σ a i) ∧ (0 ≤ order ∧ order < σ 3 3 → zn_Wm (zw_ra σ (σ 10 order)) 0 (σ (σ 10 order) 4) (σ (σ 10 order) 5) (σ (σ 10 order) 6) r22 ∧ σ22 (σ 10 order) 16 = r22 ∧ ∀ b, zc_kd b = 4 → b ≠ σ 10 order → σ22 b 16 = σ b 16) from ⟨fun h => absurd ⟨u5.1, u5.2.1⟩ h, fun _ => by rw [← u5.2.2]; exact wσ22⟩), Uσ22⟩
set_option maxHeartbeats 800000 in
theorem c_X11_like_2 {σ : zq_S} (hσ : zc_T σ) (a : Int) (b : Int) (q0 : zq_in a) (q1 : zq_in b) (q2 : zq_hid (zn_OK σ)) (Uσ : zc_U σ) : zq_C zc_w yX11_like cX11_like 5 (some .int) 6 132 284 284 [ZR 0, ZI a, ZI b] σ (zq_pi (fun r τ => zc_T τ ∧ zc_Fr [(134, 5), (135, -1), (136, -1), (137, -1), (138, -1)] σ τ ∧ (True) ∧ zq_hid ((¬ (0 ≤ a ∧ a < σ 3 3 ∧ 0 ≤ b ∧ b < σ 3 3) → r = -1) ∧ (0 ≤ a ∧ a < σ 3 3 ∧ 0 ≤ b ∧ b < σ 3 3 → (r = 0 ∨ r = 1) ∧ (r = 1 ↔ zn_Lk (zw_ra σ (σ 10 a)) 0 (σ (σ 10 a) 4) (σ (σ 10 a) 5) (σ (σ 10 a) 6) (zw_ra σ (σ 10 b)) 0 (σ (σ 10 b) 4) (σ (σ 10 b) 5) (σ (σ 10 b) 6)))) ∧ zc_U τ)) := by
  refine zq_C_of (by decide) (Nat.le_refl _) (Nat.le_of_ble_eq_true rfl) [some (ZR 0), some (ZI a), some (ZI b), none, none] rfl (fun V hV => ?_)
  have hFσ := zc_Fr_rf [(134, 5), (135, -1), (136, -1), (137, -1), (138, -1)] σ
  show V 0 [some (ZR 0), some (ZI a), some (ZI b), none, none] [] 284 σ
  refine zr_aload_n (pc := 0) hV dX11_like_0 rfl rfl ?_
  refine zr_getR (pc := 1) hV 1 3 dX11_like_1 fX11_19 rfl rfl (zc_k0 zc_s0) (zc_pos zc_s0 rfl) (zc_g0_1 hσ zc_s0) (by decide) ?_
  refine zr_iload_n (pc := 4) hV dX11_like_4 rfl rfl ?_
  refine zr_callVr (pc := 5) hV [ZI a] (st := []) (c_X9_numbered_2 (σ := σ) hσ a (by omega)) dX11_like_5 mX11_117 (zc_k3 zc_s3) (zc_pos zc_s3 rfl) (by decide) (Nat.le_of_ble_eq_true rfl) (Nat.le_refl _) (fun r5 pr5 => ?_)
  refine zr_astore_nQ (pc := 8) hV [some (ZR 0), some (ZI a), some (ZI b), some (zq_nr r5), none] dX11_like_8 rfl (by decide) rfl rfl ?_
  refine zr_aload_n (pc := 9) hV dX11_like_9 rfl rfl ?_
  refine zr_getR (pc := 10) hV 1 3 dX11_like_10 fX11_19 rfl rfl (zc_k0 zc_s0) (zc_pos zc_s0 rfl) (zc_g0_1 hσ zc_s0) (by decide) ?_
  refine zr_iload_n (pc := 13) hV dX11_like_13 rfl rfl ?_
  refine zr_callVr (pc := 14) hV [ZI b] (st := []) (c_X9_numbered_2 (σ := σ) hσ b (by omega)) dX11_like_14 mX11_117 (zc_k3 zc_s3) (zc_pos zc_s3 rfl) (by decide) (Nat.le_of_ble_eq_true rfl) (Nat.le_refl _) (fun r14 pr14 => ?_)
  refine zr_astoreQ (pc := 17) hV [some (ZR 0), some (ZI a), some (ZI b), some (zq_nr r5), some (zq_nr r14)] dX11_like_17 (by decide) (by simp only [zq_nr]; split <;> rfl) rfl ?_
  refine zr_aload_nQ (pc := 19) hV dX11_like_19 rfl rfl ?_
  by_cases c1 : r5 < 0
  · rw [zq_nr_n c1]
    refine zr_ifnullN (pc := 20) hV 28 dX11_like_20 (by decide) ?_
    show V 28 [some (ZR 0), some (ZI a), some (ZI b), some (ZN), some (zq_nr r14)] [] 284 σ
    refine zr_iconst (pc := 28) hV (-1) dX11_like_28 rfl ?_
    exact zr_iret (pc := 29) hV dX11_like_29 rfl rfl ⟨_, rfl, ⟨by decide, by decide⟩, hσ, hFσ, trivial, (show (¬ (0 ≤ a ∧ a < σ 3 3 ∧ 0 ≤ b ∧ b < σ 3 3) → ((-1) : Int) = -1) ∧ (0 ≤ a ∧ a < σ 3 3 ∧ 0 ≤ b ∧ b < σ 3 3 → (((-1) : Int) = 0 ∨ ((-1) : Int) = 1) ∧ (((-1) : Int) = 1 ↔ zn_Lk (zw_ra σ (σ 10 a)) 0 (σ (σ 10 a) 4) (σ (σ 10 a) 5) (σ (σ 10 a) 6) (zw_ra σ (σ 10 b)) 0 (σ (σ 10 b) 4) (σ (σ 10 b) 5) (σ (σ 10 b) 6))) from ⟨fun _ => rfl, fun h => by first | exact absurd ⟨h.1, h.2.1⟩ (pr5.2.2 (by omega)) | exact absurd ⟨h.2.2.1, h.2.2.2⟩ (pr14.2.2 (by omega))⟩), Uσ⟩
  · rw [zq_nr_p c1]
    have kr5 : zc_kd r5 = 4 := pr5.1 (by omega)
    have por5 := zc_pos kr5 rfl
    refine zr_ifnull (pc := 20) hV dX11_like_20 ?_
    show V 23 [some (ZR 0), some (ZI a), some (ZI b), some (ZR r5), some (zq_nr r14)] [] 284 σ
    refine zr_aloadQ (pc := 23) hV dX11_like_23 rfl ?_
    by_cases c2 : r14 < 0
    · rw [zq_nr_n c2]
      refine zr_ifnonnullN (pc := 25) hV dX11_like_25 ?_
      show V 28 [some (ZR 0), some (ZI a), some (ZI b), some (ZR r5), some (ZN)] [] 284 σ
      refine zr_iconst (pc := 28) hV (-1) dX11_like_28 rfl ?_
      exact zr_iret (pc := 29) hV dX11_like_29 rfl rfl ⟨_, rfl, ⟨by decide, by decide⟩, hσ, hFσ, trivial, (show (¬ (0 ≤ a ∧ a < σ 3 3 ∧ 0 ≤ b ∧ b < σ 3 3) → ((-1) : Int) = -1) ∧ (0 ≤ a ∧ a < σ 3 3 ∧ 0 ≤ b ∧ b < σ 3 3 → (((-1) : Int) = 0 ∨ ((-1) : Int) = 1) ∧ (((-1) : Int) = 1 ↔ zn_Lk (zw_ra σ (σ 10 a)) 0 (σ (σ 10 a) 4) (σ (σ 10 a) 5) (σ (σ 10 a) 6) (zw_ra σ (σ 10 b)) 0 (σ (σ 10 b) 4) (σ (σ 10 b) 5) (σ (σ 10 b) 6))) from ⟨fun _ => rfl, fun h => by first | exact absurd ⟨h.1, h.2.1⟩ (pr5.2.2 (by omega)) | exact absurd ⟨h.2.2.1, h.2.2.2⟩ (pr14.2.2 (by omega))⟩), Uσ⟩
    · rw [zq_nr_p c2]
      have kr14 : zc_kd r14 = 4 := pr14.1 (by omega)
      have por14 := zc_pos kr14 rfl
      refine zr_ifnonnull (pc := 25) hV 30 dX11_like_25 (by decide) ?_
      show V 30 [some (ZR 0), some (ZI a), some (ZI b), some (ZR r5), some (ZR r14)] [] 284 σ
      have u5 := pr5.2.1 (by omega)
      have k5 := (q2.2 a u5.1 u5.2.1).1
      rw [← u5.2.2] at k5
      have u14 := pr14.2.1 (by omega)
      have k14 := (q2.2 b u14.1 u14.2.1).1
      rw [← u14.2.2] at k14
      refine zr_aload_n (pc := 30) hV dX11_like_30 rfl rfl ?_
      refine zr_getR (pc := 31) hV 3 134 dX11_like_31 fX11_35 rfl rfl (zc_k0 zc_s0) (zc_pos zc_s0 rfl) (zc_g0_3 hσ zc_s0) (by decide) ?_
      refine zr_aload_n (pc := 34) hV dX11_like_34 rfl rfl ?_
      refine zr_aload (pc := 35) hV dX11_like_35 rfl ?_
      have t3 := zc_g134_0 hσ zc_s134
      refine zr_callVi (pc := 37) hV [ZR r5, ZR r14] (st := []) (c_X2_leaveTheSame_2 (σ := σ) hσ r5 kr5 r14 kr14 k5 k14 q2.1) dX11_like_37 mX11_169 (zc_k134 zc_s134) (zc_pos zc_s134 rfl) (by decide) (Nat.le_of_ble_eq_true rfl) (Nat.le_refl _) (fun r37 σ37 hr37 pσ37 => ?_)
      obtain ⟨hσ37, hfσ37, pσ37, wσ37⟩ := pσ37
      have hFσ37 := zc_Fc hfσ37 rfl hFσ
      have Uσ37 : zc_U σ37 := zc_U_fr hfσ37 rfl hσ Uσ
      have t4 := zc_g4_4 hσ kr14
      have t5 := zc_g4_5 hσ kr14
      have t6 := zc_g4_6 hσ kr14
      have t7 := zc_g4_4 hσ kr5
      have t8 := zc_g4_5 hσ kr5
      have t9 := zc_g4_6 hσ kr5
      refine zr_if_eq (pc := 40) hV 47 dX11_like_40 (by decide) (by omega) (fun c10 => ?_) (fun c10 => ?_)
      · show V 47 [some (ZR 0), some (ZI a), some (ZI b), some (ZR r5), some (ZR r14)] [] 284 σ37
        refine zr_iconst (pc := 47) hV 0 dX11_like_47 rfl ?_
        show V 48 [some (ZR 0), some (ZI a), some (ZI b), some (ZR r5), some (ZR r14)] [ZI 0] 284 σ37
        exact zr_iret (pc := 48) hV dX11_like_48 rfl rfl ⟨_, rfl, ⟨by decide, by decide⟩, hσ37, hFσ37, trivial, (show (¬ (0 ≤ a ∧ a < σ 3 3 ∧ 0 ≤ b ∧ b < σ 3 3) → (0 : Int) = -1) ∧ (0 ≤ a ∧ a < σ 3 3 ∧ 0 ≤ b ∧ b < σ 3 3 → ((0 : Int) = 0 ∨ (0 : Int) = 1) ∧ ((0 : Int) = 1 ↔ zn_Lk (zw_ra σ (σ 10 a)) 0 (σ (σ 10 a) 4) (σ (σ 10 a) 5) (σ (σ 10 a) 6) (zw_ra σ (σ 10 b)) 0 (σ (σ 10 b) 4) (σ (σ 10 b) 5) (σ (σ 10 b) 6))) from ⟨fun h => absurd ⟨u5.1, u5.2.1, u14.1, u14.2.1⟩ h, fun _ => ⟨Or.inl rfl, by rw [← u5.2.2, ← u14.2.2]; exact ⟨fun h => absurd h (by decide), fun h => by have z := wσ37.mpr h; omega⟩⟩⟩), Uσ37⟩
      · show V 43 [some (ZR 0), some (ZI a), some (ZI b), some (ZR r5), some (ZR r14)] [] 284 σ37
        refine zr_iconst (pc := 43) hV 1 dX11_like_43 rfl ?_
        refine zr_goto (pc := 44) hV 48 dX11_like_44 (by decide) ?_
        show V 48 [some (ZR 0), some (ZI a), some (ZI b), some (ZR r5), some (ZR r14)] [ZI 1] 284 σ37
        exact zr_iret (pc := 48) hV dX11_like_48 rfl rfl ⟨_, rfl, ⟨by decide, by decide⟩, hσ37, hFσ37, trivial, (show (¬ (0 ≤ a ∧ a < σ 3 3 ∧ 0 ≤ b ∧ b < σ 3 3) → (1 : Int) = -1) ∧ (0 ≤ a ∧ a < σ 3 3 ∧ 0 ≤ b ∧ b < σ 3 3 → ((1 : Int) = 0 ∨ (1 : Int) = 1) ∧ ((1 : Int) = 1 ↔ zn_Lk (zw_ra σ (σ 10 a)) 0 (σ (σ 10 a) 4) (σ (σ 10 a) 5) (σ (σ 10 a) 6) (zw_ra σ (σ 10 b)) 0 (σ (σ 10 b) 4) (σ (σ 10 b) 5) (σ (σ 10 b) 6))) from ⟨fun h => absurd ⟨u5.1, u5.2.1, u14.1, u14.2.1⟩ h, fun _ => ⟨Or.inr rfl, by rw [← u5.2.2, ← u14.2.2]; exact ⟨fun _ => wσ37.mp (by omega), fun _ => rfl⟩⟩⟩), Uσ37⟩
