set_option maxHeartbeats 800000 in
theorem c_X12_layJoined2 {σ : zq_S} (hσ : zx_T σ) (a c room name : Int) (q0 : 0 ≤ a ∧ a < σ 0 3) (q1 : 0 ≤ c ∧ c < σ 0 3) (q2 : 0 ≤ room ∧ room ≤ 4095) (q3 : zq_in name) (q4 : σ 0 3 < 20) (q5 : σ 5 a + σ 5 c ≤ 3) (q6 : σ 7 a + σ 7 c ≤ 10) (q7 : 1 ≤ σ 7 a) (q8 : 1 ≤ σ 7 c) (q9 : zx_A σ a) (q10 : zx_A σ c) (q11 : zx_B σ a) (q12 : zx_B σ c) (q13 : σ 0 61 = zx_rb (zq_or (zx_fm σ a 4) (zx_fm σ c 4)) (if 0 < zx_cnt σ a 3 (σ 0 2) then zx_cnt σ a 3 (σ 0 2) else zx_cnt σ c 3 (σ 0 2)) (σ 0 1)) (q14 : 0 ≤ σ 0 61 ∧ σ 0 61 < σ 0 2) : zq_C zx_w yX12_layJoined cX12_layJoined 12 (none) 3 69 41 41 [ZR 0, ZI a, ZI c, ZI room, ZI name] σ (zq_pv (fun τ => zx_T τ ∧ (∀ a i : Int, (¬ (a = 1 ∧ i = σ 0 3) ∧ ¬ (a = 2 ∧ 12 * σ 0 3 ≤ i) ∧ ¬ (a = 3 ∧ i = σ 0 3) ∧ ¬ (a = 4 ∧ i = σ 0 3) ∧ ¬ (a = 5 ∧ i = σ 0 3) ∧ ¬ (a = 6 ∧ 18 * σ 0 3 ≤ i) ∧ ¬ (a = 7 ∧ i = σ 0 3)) → τ a i = σ a i) ∧ (zx_A τ (σ 0 3) ∧ zx_B τ (σ 0 3) ∧ 1 ≤ τ 7 (σ 0 3)) ∧ zq_hid (zt_lj σ τ a c room name))) := by
  refine zq_C_of (by decide) (Nat.le_refl _) (Nat.le_of_ble_eq_true rfl) [some (ZR 0), some (ZI a), some (ZI c), some (ZI room), some (ZI name), none, none, none, none, none, none, none] rfl (fun V hV => ?_)
  have z3 := zx_g3 hσ
  have z2 := zx_g2 hσ
  have z1 := zx_g1 hσ
  show V 0 [some (ZR 0), some (ZI a), some (ZI c), some (ZI room), some (ZI name), none, none, none, none, none, none, none] [] 41 σ
  refine zr_aload_n (pc := 0) hV dX12_layJoined_0 rfl rfl ?_
  refine zr_getI (pc := 1) hV 3 dX12_layJoined_1 fX12_150 rfl rfl rfl (by decide) ?_
  have t1 := zx_g3 hσ
  refine zr_istore (pc := 4) hV [some (ZR 0), some (ZI a), some (ZI c), some (ZI room), some (ZI name), some (ZI (σ 0 3)), none, none, none, none, none, none] dX12_layJoined_4 (by decide) rfl rfl ?_
  refine zr_aload_n (pc := 6) hV dX12_layJoined_6 rfl rfl ?_
  refine zr_getR (pc := 7) hV 4 1 dX12_layJoined_7 fX12_19 rfl rfl rfl (by decide) (zx_g4 hσ) (by omega) ?_
  refine zr_iload (pc := 10) hV dX12_layJoined_10 rfl ?_
  refine zr_iload (pc := 12) hV dX12_layJoined_12 rfl ?_
  refine zr_iast (pc := 14) hV dX12_layJoined_14 rfl (by decide) rfl (by omega) (fun σ14 eσ14 => ?_)
  have hσ14 : zx_T σ14 := zx_ua1 eσ14 hσ (by omega)
  have hFσ14 : ∀ a i : Int, (¬ (a = 1 ∧ i = σ 0 3) ∧ ¬ (a = 2 ∧ 12 * σ 0 3 ≤ i) ∧ ¬ (a = 3 ∧ i = σ 0 3) ∧ ¬ (a = 4 ∧ i = σ 0 3) ∧ ¬ (a = 5 ∧ i = σ 0 3) ∧ ¬ (a = 6 ∧ 18 * σ 0 3 ≤ i) ∧ ¬ (a = 7 ∧ i = σ 0 3)) → σ14 a i = σ a i := fun a i h => by rw [eσ14, zq_up_ne (fun q => h.1 ⟨q.1, by omega⟩)]
  refine zr_aload_n (pc := 15) hV dX12_layJoined_15 rfl rfl ?_
  refine zr_getR (pc := 16) hV 6 3 dX12_layJoined_16 fX12_26 rfl rfl rfl (by decide) (zx_g6 hσ14) (by omega) ?_
  refine zr_iload (pc := 19) hV dX12_layJoined_19 rfl ?_
  refine zr_iconst (pc := 21) hV 0 dX12_layJoined_21 rfl ?_
  refine zr_iast (pc := 22) hV dX12_layJoined_22 rfl (by decide) rfl (by omega) (fun σ22 eσ22 => ?_)
  have hσ22 : zx_T σ22 := zx_ua3 eσ22 hσ14 (by omega)
  have hFσ22 : ∀ a i : Int, (¬ (a = 1 ∧ i = σ 0 3) ∧ ¬ (a = 2 ∧ 12 * σ 0 3 ≤ i) ∧ ¬ (a = 3 ∧ i = σ 0 3) ∧ ¬ (a = 4 ∧ i = σ 0 3) ∧ ¬ (a = 5 ∧ i = σ 0 3) ∧ ¬ (a = 6 ∧ 18 * σ 0 3 ≤ i) ∧ ¬ (a = 7 ∧ i = σ 0 3)) → σ22 a i = σ a i := fun a i h => by rw [eσ22, zq_up_ne (fun q => h.2.2.1 ⟨q.1, by omega⟩)]; exact hFσ14 a i h
  refine zr_aload_n (pc := 23) hV dX12_layJoined_23 rfl rfl ?_
  refine zr_getR (pc := 24) hV 7 4 dX12_layJoined_24 fX12_29 rfl rfl rfl (by decide) (zx_g7 hσ22) (by omega) ?_
  refine zr_iload (pc := 27) hV dX12_layJoined_27 rfl ?_
  refine zr_iconst (pc := 29) hV 0 dX12_layJoined_29 rfl ?_
  refine zr_iast (pc := 30) hV dX12_layJoined_30 rfl (by decide) rfl (by omega) (fun σ30 eσ30 => ?_)
  have hσ30 : zx_T σ30 := zx_ua4 eσ30 hσ22 (by omega)
  have hFσ30 : ∀ a i : Int, (¬ (a = 1 ∧ i = σ 0 3) ∧ ¬ (a = 2 ∧ 12 * σ 0 3 ≤ i) ∧ ¬ (a = 3 ∧ i = σ 0 3) ∧ ¬ (a = 4 ∧ i = σ 0 3) ∧ ¬ (a = 5 ∧ i = σ 0 3) ∧ ¬ (a = 6 ∧ 18 * σ 0 3 ≤ i) ∧ ¬ (a = 7 ∧ i = σ 0 3)) → σ30 a i = σ a i := fun a i h => by rw [eσ30, zq_up_ne (fun q => h.2.2.2.1 ⟨q.1, by omega⟩)]; exact hFσ22 a i h
  refine zr_aload_n (pc := 31) hV dX12_layJoined_31 rfl rfl ?_
  refine zr_getR (pc := 32) hV 8 5 dX12_layJoined_32 fX12_32 rfl rfl rfl (by decide) (zx_g8 hσ30) (by omega) ?_
  refine zr_iload (pc := 35) hV dX12_layJoined_35 rfl ?_
  refine zr_aload_n (pc := 37) hV dX12_layJoined_37 rfl rfl ?_
  refine zr_getR (pc := 38) hV 8 5 dX12_layJoined_38 fX12_32 rfl rfl rfl (by decide) (zx_g8 hσ30) (by omega) ?_
  refine zr_iload_n (pc := 41) hV dX12_layJoined_41 rfl rfl ?_
  refine zr_iald (pc := 42) hV dX12_layJoined_42 rfl (by decide) rfl (by omega) ?_
  have t2 := zx_ga5 hσ30 a
  have t3 : σ30 5 a = σ22 5 a := by rw [eσ30]; exact zq_up_ne (by omega)
  have t4 : σ22 5 a = σ14 5 a := by rw [eσ22]; exact zq_up_ne (by omega)
  have t5 : σ14 5 a = σ 5 a := by rw [eσ14]; exact zq_up_ne (by omega)
  refine zr_aload_n (pc := 43) hV dX12_layJoined_43 rfl rfl ?_
  refine zr_getR (pc := 44) hV 8 5 dX12_layJoined_44 fX12_32 rfl rfl rfl (by decide) (zx_g8 hσ30) (by omega) ?_
  refine zr_iload_n (pc := 47) hV dX12_layJoined_47 rfl rfl ?_
  refine zr_iald (pc := 48) hV dX12_layJoined_48 rfl (by decide) rfl (by omega) ?_
  have t6 := zx_ga5 hσ30 c
  have t7 : σ30 5 c = σ22 5 c := by rw [eσ30]; exact zq_up_ne (by omega)
  have t8 : σ22 5 c = σ14 5 c := by rw [eσ22]; exact zq_up_ne (by omega)
  have t9 : σ14 5 c = σ 5 c := by rw [eσ14]; exact zq_up_ne (by omega)
  refine zr_iadd (pc := 49) hV dX12_layJoined_49 ?_
  refine zr_iast (pc := 50) hV dX12_layJoined_50 rfl (by decide) rfl (by omega) (fun σ50 eσ50 => ?_)
  have hσ50 : zx_T σ50 := zx_ua5 eσ50 hσ30 (by omega)
  have hFσ50 : ∀ a i : Int, (¬ (a = 1 ∧ i = σ 0 3) ∧ ¬ (a = 2 ∧ 12 * σ 0 3 ≤ i) ∧ ¬ (a = 3 ∧ i = σ 0 3) ∧ ¬ (a = 4 ∧ i = σ 0 3) ∧ ¬ (a = 5 ∧ i = σ 0 3) ∧ ¬ (a = 6 ∧ 18 * σ 0 3 ≤ i) ∧ ¬ (a = 7 ∧ i = σ 0 3)) → σ50 a i = σ a i := fun a i h => by rw [eσ50, zq_up_ne (fun q => h.2.2.2.2.1 ⟨q.1, by omega⟩)]; exact hFσ30 a i h
  have g5a := zx_ga5 hσ a
  have g5c := zx_ga5 hσ c
  refine zr_aload_n (pc := 51) hV dX12_layJoined_51 rfl rfl ?_
  refine zr_getR (pc := 52) hV 10 7 dX12_layJoined_52 fX12_38 rfl rfl rfl (by decide) (zx_g10 hσ50) (by omega) ?_
  refine zr_iload (pc := 55) hV dX12_layJoined_55 rfl ?_
  refine zr_aload_n (pc := 57) hV dX12_layJoined_57 rfl rfl ?_
  refine zr_getR (pc := 58) hV 10 7 dX12_layJoined_58 fX12_38 rfl rfl rfl (by decide) (zx_g10 hσ50) (by omega) ?_
  refine zr_iload_n (pc := 61) hV dX12_layJoined_61 rfl rfl ?_
  refine zr_iald (pc := 62) hV dX12_layJoined_62 rfl (by decide) rfl (by omega) ?_
  have t10 := zx_ga7 hσ50 a
  have t11 : σ50 7 a = σ30 7 a := by rw [eσ50]; exact zq_up_ne (by omega)
  have t12 : σ30 7 a = σ22 7 a := by rw [eσ30]; exact zq_up_ne (by omega)
  have t13 : σ22 7 a = σ14 7 a := by rw [eσ22]; exact zq_up_ne (by omega)
  have t14 : σ14 7 a = σ 7 a := by rw [eσ14]; exact zq_up_ne (by omega)
  refine zr_aload_n (pc := 63) hV dX12_layJoined_63 rfl rfl ?_
  refine zr_getR (pc := 64) hV 10 7 dX12_layJoined_64 fX12_38 rfl rfl rfl (by decide) (zx_g10 hσ50) (by omega) ?_
  refine zr_iload_n (pc := 67) hV dX12_layJoined_67 rfl rfl ?_
  refine zr_iald (pc := 68) hV dX12_layJoined_68 rfl (by decide) rfl (by omega) ?_
  have t15 := zx_ga7 hσ50 c
  have t16 : σ50 7 c = σ30 7 c := by rw [eσ50]; exact zq_up_ne (by omega)
  have t17 : σ30 7 c = σ22 7 c := by rw [eσ30]; exact zq_up_ne (by omega)
  have t18 : σ22 7 c = σ14 7 c := by rw [eσ22]; exact zq_up_ne (by omega)
  have t19 : σ14 7 c = σ 7 c := by rw [eσ14]; exact zq_up_ne (by omega)
  refine zr_iadd (pc := 69) hV dX12_layJoined_69 ?_
  refine zr_iconst (pc := 70) hV 1 dX12_layJoined_70 rfl ?_
  refine zr_isub (pc := 71) hV dX12_layJoined_71 ?_
  refine zr_iast (pc := 72) hV dX12_layJoined_72 rfl (by decide) rfl (by omega) (fun σ72 eσ72 => ?_)
  have hσ72 : zx_T σ72 := zx_ua7 eσ72 hσ50 (by omega)
  have hFσ72 : ∀ a i : Int, (¬ (a = 1 ∧ i = σ 0 3) ∧ ¬ (a = 2 ∧ 12 * σ 0 3 ≤ i) ∧ ¬ (a = 3 ∧ i = σ 0 3) ∧ ¬ (a = 4 ∧ i = σ 0 3) ∧ ¬ (a = 5 ∧ i = σ 0 3) ∧ ¬ (a = 6 ∧ 18 * σ 0 3 ≤ i) ∧ ¬ (a = 7 ∧ i = σ 0 3)) → σ72 a i = σ a i := fun a i h => by rw [eσ72, zq_up_ne (fun q => h.2.2.2.2.2.2 ⟨q.1, by omega⟩)]; exact hFσ50 a i h
  have v5a : σ72 5 (σ 0 3) = σ50 5 (σ 0 3) := by rw [eσ72, zq_up_ne (by omega)]
  have v5b := congrFun (congrFun eσ50 5) (σ 0 3)
  rw [zq_up_same] at v5b
  have v7b := congrFun (congrFun eσ72 7) (σ 0 3)
  rw [zq_up_same] at v7b
  refine zr_iconst (pc := 73) hV 0 dX12_layJoined_73 rfl ?_
  refine zr_istore (pc := 74) hV [some (ZR 0), some (ZI a), some (ZI c), some (ZI room), some (ZI name), some (ZI (σ 0 3)), some (ZI 0), none, none, none, none, none] dX12_layJoined_74 (by decide) rfl rfl ?_
  have L76 : ∀ (fuel : Nat) (x6_76 : Int) (σ_76 : zq_S), (0 ≤ x6_76 ∧ x6_76 ≤ 18) → (zx_T σ_76) → (∀ a i : Int, (¬ (a = 1 ∧ i = σ 0 3) ∧ ¬ (a = 2 ∧ 12 * σ 0 3 ≤ i) ∧ ¬ (a = 3 ∧ i = σ 0 3) ∧ ¬ (a = 4 ∧ i = σ 0 3) ∧ ¬ (a = 5 ∧ i = σ 0 3) ∧ ¬ (a = 6 ∧ 18 * σ 0 3 ≤ i) ∧ ¬ (a = 7 ∧ i = σ 0 3)) → σ_76 a i = σ a i) → (zq_hid (∀ q, 0 ≤ q → q < x6_76 → q % 6 = 4 → 0 ≤ σ_76 6 (18 * (σ 0 3) + q))) → (zq_hid (∀ i, σ_76 2 i = σ 2 i)) → (σ_76 5 (σ 0 3) = σ 5 a + σ 5 c) → (1 ≤ σ_76 7 (σ 0 3)) → (zq_hid (∀ q, 0 ≤ q → q < x6_76 → σ_76 6 (18 * (σ 0 3) + q) = (if q < 6 * σ 5 a then σ 6 (18 * a + q) else σ 6 (18 * c + q - 6 * σ 5 a)))) → (zq_hid (σ_76 1 (σ 0 3) = name ∧ σ_76 3 (σ 0 3) = 0 ∧ σ_76 4 (σ 0 3) = 0 ∧ σ_76 7 (σ 0 3) = σ 7 a + σ 7 c - 1)) → 18 - x6_76 < (fuel : Int) → V 76 [some (ZR 0), some (ZI a), some (ZI c), some (ZI room), none, some (ZI (σ 0 3)), some (ZI x6_76), none, none, none, none, none] [] 41 σ_76 := by
    intro fuel
    induction fuel with
    | zero =>
      intro x6_76 σ_76 hx6_76 hσ_76 hFσ_76 hi76_0 hi76_1 hi76_2 hi76_3 hi76_4 hi76_5 hm76
      exfalso; omega
    | succ fuel ih =>
      intro x6_76 σ_76 hx6_76 hσ_76 hFσ_76 hi76_0 hi76_1 hi76_2 hi76_3 hi76_4 hi76_5 hm76
      have ih76 := ih
      show V 76 [some (ZR 0), some (ZI a), some (ZI c), some (ZI room), none, some (ZI (σ 0 3)), some (ZI x6_76), none, none, none, none, none] [] 41 σ_76
      have f5a := hFσ_76 5 a (by omega)
      have f5c := hFσ_76 5 c (by omega)
      have Aa : zx_A σ_76 a := fun n h1 h2 => by rw [hFσ_76 6 _ (by omega)]; exact q9 n h1 (by omega)
      have Ac : zx_A σ_76 c := fun n h1 h2 => by rw [hFσ_76 6 _ (by omega)]; exact q10 n h1 (by omega)
      have g5a := zx_ga5 hσ a
      have g5c := zx_ga5 hσ c
      have f61 := hFσ_76 0 61 (by omega)
      have f2 := hFσ_76 0 2 (by omega)
      have f1 := hFσ_76 0 1 (by omega)
      refine zr_iload (pc := 76) hV dX12_layJoined_76 rfl ?_
      refine zr_bipush (pc := 78) hV 6 dX12_layJoined_78 (by decide) ?_
      refine zr_aload_n (pc := 80) hV dX12_layJoined_80 rfl rfl ?_
      refine zr_getR (pc := 81) hV 8 5 dX12_layJoined_81 fX12_32 rfl rfl rfl (by decide) (zx_g8 hσ_76) (by omega) ?_
      refine zr_iload (pc := 84) hV dX12_layJoined_84 rfl ?_
      refine zr_iald (pc := 86) hV dX12_layJoined_86 rfl (by decide) rfl (by omega) ?_
      have t20 := zx_ga5 hσ_76 (σ 0 3)
      refine zr_imul (pc := 87) hV dX12_layJoined_87 ?_
      refine zr_icmp_ge (pc := 88) hV 173 dX12_layJoined_88 (by decide) (by omega) (by omega) (fun c21 => ?_) (fun c21 => ?_)
      · show V 173 [some (ZR 0), some (ZI a), some (ZI c), some (ZI room), none, some (ZI (σ 0 3)), some (ZI x6_76), none, none, none, none, none] [] 41 σ_76
        refine zr_aload_n (pc := 173) hV dX12_layJoined_173 rfl rfl ?_
        refine zr_iload_n (pc := 174) hV dX12_layJoined_174 rfl rfl ?_
        refine zr_callVp (pc := 175) hV [ZI a] (st := []) (c_X12_fieldMask (σ := σ_76) hσ_76 a (by omega)) dX12_layJoined_175 mX12_274 rfl (by decide) (by decide) (Nat.le_of_ble_eq_true rfl) (Nat.le_refl _) (fun r175 hr175 pr175 => ?_)
        refine zr_aload_n (pc := 178) hV dX12_layJoined_178 rfl rfl ?_
        refine zr_iload_n (pc := 179) hV dX12_layJoined_179 rfl rfl ?_
        refine zr_callVp (pc := 180) hV [ZI c] (st := [ZI r175]) (c_X12_fieldMask (σ := σ_76) hσ_76 c (by omega)) dX12_layJoined_180 mX12_274 rfl (by decide) (by decide) (Nat.le_of_ble_eq_true rfl) (Nat.le_refl _) (fun r180 hr180 pr180 => ?_)
        refine zr_ior (pc := 183) hV dX12_layJoined_183 ?_
        have t22 := zq_or_in r175 r180
        have fa : r175 = zx_fm σ a 4 := by rw [pr175]; exact zx_fm_fr (fun i => hi76_1 i) f2 a 4
        have fc : r180 = zx_fm σ c 4 := by rw [pr180]; exact zx_fm_fr (fun i => hi76_1 i) f2 c 4
        have fab := zx_fm_b σ a
        have fcb := zx_fm_b σ c
        have fob := zq_or_b (x := r175) (y := r180) 4 16 (by decide) (by decide) (by omega) (by omega)
        have ca : zx_cnt σ_76 a 3 (σ_76 0 2) = zx_cnt σ a 3 (σ 0 2) := by rw [f2]; exact zx_cnt_fr (fun i => hi76_1 i) a 3 _
        have cc : zx_cnt σ_76 c 3 (σ_76 0 2) = zx_cnt σ c 3 (σ 0 2) := by rw [f2]; exact zx_cnt_fr (fun i => hi76_1 i) c 3 _
        have Ba := q11.2.2.2
        have Bc := q12.2.2.2
        refine zr_istore (pc := 184) hV [some (ZR 0), some (ZI a), some (ZI c), some (ZI room), none, some (ZI (σ 0 3)), some (ZI (zq_or r175 r180)), none, none, none, none, none] dX12_layJoined_184 (by decide) rfl rfl ?_
        refine zr_aload_n (pc := 186) hV dX12_layJoined_186 rfl rfl ?_
        refine zr_iload_n (pc := 187) hV dX12_layJoined_187 rfl rfl ?_
        refine zr_iconst (pc := 188) hV 3 dX12_layJoined_188 rfl ?_
        refine zr_callVp (pc := 189) hV [ZI a, ZI 3] (st := []) (c_X12_fieldBits (σ := σ_76) hσ_76 a 3 (by omega) (by omega)) dX12_layJoined_189 mX12_184 rfl (by decide) (by decide) (Nat.le_of_ble_eq_true rfl) (Nat.le_refl _) (fun r189 hr189 pr189 => ?_)
        have t23 := zx_g2 hσ_76
        have t24 : σ_76 0 2 = σ 0 2 := hFσ_76 _ _ (by omega)
        have J210 : ∀ (v0_210 : Int), (0 ≤ v0_210 ∧ v0_210 ≤ 12) → (zq_hid (v0_210 = (if 0 < zx_cnt σ a 3 (σ 0 2) then zx_cnt σ a 3 (σ 0 2) else zx_cnt σ c 3 (σ 0 2)))) → V 210 [some (ZR 0), none, none, some (ZI room), none, some (ZI (σ 0 3)), some (ZI (zq_or r175 r180)), none, none, none, none, none] [ZI v0_210] 41 σ_76 := by
          intro v0_210 hv0_210 hi210_0
          show V 210 [some (ZR 0), none, none, some (ZI room), none, some (ZI (σ 0 3)), some (ZI (zq_or r175 r180)), none, none, none, none, none] [ZI v0_210] 41 σ_76
          refine zr_istore (pc := 210) hV [some (ZR 0), none, none, some (ZI room), none, some (ZI (σ 0 3)), some (ZI (zq_or r175 r180)), some (ZI v0_210), none, none, none, none] dX12_layJoined_210 (by decide) rfl rfl ?_
          have ms0 := zx_ms_0 (zq_or r175 r180) v0_210 (σ 0 1)
          have iv : v0_210 = (if 0 < zx_cnt σ a 3 (σ 0 2) then zx_cnt σ a 3 (σ 0 2) else zx_cnt σ c 3 (σ 0 2)) := hi210_0
          have ib : 0 ≤ v0_210 ∧ v0_210 ≤ 8 := by omega
          have rb : σ 0 61 = zx_ms (zq_or r175 r180) v0_210 (σ 0 1) 4 := by rw [q13, iv, fa, fc, zx_rb_ms (by rw [← fa, ← fc]; omega) (by rw [← fa, ← fc]; omega)]
          refine zr_iconst (pc := 212) hV 0 dX12_layJoined_212 rfl ?_
          refine zr_istore (pc := 213) hV [some (ZR 0), none, none, some (ZI room), none, some (ZI (σ 0 3)), some (ZI (zq_or r175 r180)), some (ZI v0_210), some (ZI 0), none, none, none] dX12_layJoined_213 (by decide) rfl rfl ?_
          have L215 : ∀ (fuel : Nat) (x8_215 : Int) (σ_215 : zq_S), (0 ≤ x8_215 ∧ x8_215 ≤ 12) → (zx_T σ_215) → (∀ a i : Int, (¬ (a = 1 ∧ i = σ 0 3) ∧ ¬ (a = 2 ∧ 12 * σ 0 3 ≤ i) ∧ ¬ (a = 3 ∧ i = σ 0 3) ∧ ¬ (a = 4 ∧ i = σ 0 3) ∧ ¬ (a = 5 ∧ i = σ 0 3) ∧ ¬ (a = 6 ∧ 18 * σ 0 3 ≤ i) ∧ ¬ (a = 7 ∧ i = σ 0 3)) → σ_215 a i = σ a i) → (zx_C σ_215 (σ 0 3) (zq_or r175 r180) v0_210 (σ 0 1) 0 x8_215 0) → (zq_hid (∀ i, σ_215 5 i = σ_76 5 i ∧ σ_215 6 i = σ_76 6 i ∧ σ_215 7 i = σ_76 7 i)) → (x8_215 ≤ σ 0 2 - σ 0 61) → (zq_hid (∀ i, σ_215 1 i = σ_76 1 i ∧ σ_215 3 i = σ_76 3 i ∧ σ_215 4 i = σ_76 4 i)) → (zq_hid (∀ i, 0 ≤ i → i < x8_215 → σ_215 2 (12 * (σ 0 3) + i) = zt_bi (σ 0 2) room i)) → 12 - x8_215 < (fuel : Int) → V 215 [some (ZR 0), none, none, some (ZI room), none, some (ZI (σ 0 3)), some (ZI (zq_or r175 r180)), some (ZI v0_210), some (ZI x8_215), none, none, none] [] 41 σ_215 := by
            intro fuel
            induction fuel with
            | zero =>
              intro x8_215 σ_215 hx8_215 hσ_215 hFσ_215 hi215_0 hi215_1 hi215_2 hi215_3 hi215_4 hm215
              exfalso; omega
            | succ fuel ih =>
              intro x8_215 σ_215 hx8_215 hσ_215 hFσ_215 hi215_0 hi215_1 hi215_2 hi215_3 hi215_4 hm215
              have ih215 := ih
              show V 215 [some (ZR 0), none, none, some (ZI room), none, some (ZI (σ 0 3)), some (ZI (zq_or r175 r180)), some (ZI v0_210), some (ZI x8_215), none, none, none] [] 41 σ_215
              refine zr_iload (pc := 215) hV dX12_layJoined_215 rfl ?_
              refine zr_aload_n (pc := 217) hV dX12_layJoined_217 rfl rfl ?_
              refine zr_getI (pc := 218) hV 2 dX12_layJoined_218 fX12_16 rfl rfl rfl (by decide) ?_
              have t25 := zx_g2 hσ_215
              have t26 : σ_215 0 2 = σ 0 2 := hFσ_215 _ _ (by omega)
              refine zr_aload_n (pc := 221) hV dX12_layJoined_221 rfl rfl ?_
              refine zr_getI (pc := 222) hV 61 dX12_layJoined_222 fX12_470 rfl rfl rfl (by decide) ?_
              have t27 := zx_g61 hσ_215
              have t28 : σ_215 0 61 = σ 0 61 := hFσ_215 _ _ (by omega)
              refine zr_isub (pc := 225) hV dX12_layJoined_225 ?_
              refine zr_icmp_ge (pc := 226) hV 261 dX12_layJoined_226 (by decide) (by omega) (by omega) (fun c29 => ?_) (fun c29 => ?_)
              · show V 261 [some (ZR 0), none, none, some (ZI room), none, some (ZI (σ 0 3)), some (ZI (zq_or r175 r180)), some (ZI v0_210), some (ZI x8_215), none, none, none] [] 41 σ_215
                refine zr_iconst (pc := 261) hV 0 dX12_layJoined_261 rfl ?_
                refine zr_istore (pc := 262) hV [some (ZR 0), none, none, some (ZI room), none, some (ZI (σ 0 3)), some (ZI (zq_or r175 r180)), some (ZI v0_210), some (ZI x8_215), some (ZI 0), none, none] dX12_layJoined_262 (by decide) rfl rfl ?_
                have L264 : ∀ (fuel : Nat) (x8_264 : Int) (x9_264 : Int) (σ_264 : zq_S), (0 ≤ x8_264 ∧ x8_264 ≤ 12) → (0 ≤ x9_264 ∧ x9_264 ≤ 4) → (zx_T σ_264) → (∀ a i : Int, (¬ (a = 1 ∧ i = σ 0 3) ∧ ¬ (a = 2 ∧ 12 * σ 0 3 ≤ i) ∧ ¬ (a = 3 ∧ i = σ 0 3) ∧ ¬ (a = 4 ∧ i = σ 0 3) ∧ ¬ (a = 5 ∧ i = σ 0 3) ∧ ¬ (a = 6 ∧ 18 * σ 0 3 ≤ i) ∧ ¬ (a = 7 ∧ i = σ 0 3)) → σ_264 a i = σ a i) → (zx_C σ_264 (σ 0 3) (zq_or r175 r180) v0_210 (σ 0 1) x9_264 x8_264 0) → (zq_hid (∀ i, σ_264 5 i = σ_76 5 i ∧ σ_264 6 i = σ_76 6 i ∧ σ_264 7 i = σ_76 7 i)) → (x8_264 = σ 0 2 - σ 0 61 + zx_ms (zq_or r175 r180) v0_210 (σ 0 1) x9_264) → (zq_hid (∀ i, σ_264 1 i = σ_76 1 i ∧ σ_264 3 i = σ_76 3 i ∧ σ_264 4 i = σ_76 4 i)) → (zq_hid (∀ i, 0 ≤ i → i < σ 0 2 - σ 0 61 → σ_264 2 (12 * (σ 0 3) + i) = zt_bi (σ 0 2) room i)) → (zq_hid (∀ f, 0 ≤ f → f < x9_264 → ∀ i, σ 0 2 - σ 0 61 + zx_ms (zq_or r175 r180) v0_210 (σ 0 1) f ≤ i → i < σ 0 2 - σ 0 61 + zx_ms (zq_or r175 r180) v0_210 (σ 0 1) (f + 1) → σ_264 2 (12 * (σ 0 3) + i) = 2 + f)) → 4 - x9_264 < (fuel : Int) → V 264 [some (ZR 0), none, none, none, none, some (ZI (σ 0 3)), some (ZI (zq_or r175 r180)), some (ZI v0_210), some (ZI x8_264), some (ZI x9_264), none, none] [] 41 σ_264 := by
                  intro fuel
                  induction fuel with
                  | zero =>
                    intro x8_264 x9_264 σ_264 hx8_264 hx9_264 hσ_264 hFσ_264 hi264_0 hi264_1 hi264_2 hi264_3 hi264_4 hi264_5 hm264
                    exfalso; omega
                  | succ fuel ih =>
                    intro x8_264 x9_264 σ_264 hx8_264 hx9_264 hσ_264 hFσ_264 hi264_0 hi264_1 hi264_2 hi264_3 hi264_4 hi264_5 hm264
                    have ih264 := ih
                    show V 264 [some (ZR 0), none, none, none, none, some (ZI (σ 0 3)), some (ZI (zq_or r175 r180)), some (ZI v0_210), some (ZI x8_264), some (ZI x9_264), none, none] [] 41 σ_264
                    refine zr_iload (pc := 264) hV dX12_layJoined_264 rfl ?_
                    refine zr_iconst (pc := 266) hV 4 dX12_layJoined_266 rfl ?_
                    refine zr_icmp_ge (pc := 267) hV 343 dX12_layJoined_267 (by decide) (by omega) ⟨by decide, by decide⟩ (fun c30 => ?_) (fun c30 => ?_)
                    · show V 343 [some (ZR 0), none, none, none, none, some (ZI (σ 0 3)), some (ZI (zq_or r175 r180)), some (ZI v0_210), some (ZI x8_264), some (ZI x9_264), none, none] [] 41 σ_264
                      have f5o := hi76_2
                      have h2o := hFσ_264 0 2 (by omega)
                      have zA : zx_A σ_264 (σ 0 3) := fun n h1 h2 => by rw [(hi264_1 _).2.1, show 18 * σ 0 3 + 6 * n + 4 = 18 * σ 0 3 + (6 * n + 4) by omega]; exact hi76_0 (6 * n + 4) (by omega) (by have := (hi264_1 (σ 0 3)).1; omega) (by omega)
                      have e4 : zx_ms (zq_or r175 r180) v0_210 (σ 0 1) x9_264 = zx_ms (zq_or r175 r180) v0_210 (σ 0 1) 4 := by rw [show x9_264 = 4 by omega]
                      have zB : zx_B σ_264 (σ 0 3) := zx_C_B (x11 := 0) ib (show 0 ≤ σ 0 1 ∧ σ 0 1 ≤ 3 by omega) (show x8_264 = σ_264 0 2 by omega) (show zx_C σ_264 (σ 0 3) (zq_or r175 r180) v0_210 (σ 0 1) 4 x8_264 0 from (show x9_264 = 4 by omega) ▸ hi264_0)
                      have zT : 1 ≤ σ_264 7 (σ 0 3) := by rw [(hi264_1 (σ 0 3)).2.2]; omega
                      exact zr_vret (pc := 343) hV dX12_layJoined_343 rfl rfl ⟨rfl, hσ_264, hFσ_264, ⟨zA, zB, zT⟩, (show zt_lj σ σ_264 a c room name from ⟨by rw [(hi264_3 _).1]; exact hi76_5.1, by rw [(hi264_3 _).2.1]; exact hi76_5.2.1, by rw [(hi264_3 _).2.2]; exact hi76_5.2.2.1, by rw [(hi264_1 _).1]; exact hi76_2, by rw [(hi264_1 _).2.2]; exact hi76_5.2.2.2, fun q h0 h1 => by rw [(hi264_1 _).2.1]; exact hi76_4 q h0 (by omega), fun i h0 h1 => hi264_4 i h0 (by rw [q13]; exact h1), fun f h0 h3 i i0 i1 => hi264_5 f h0 (by omega) i (by rw [q13, (show zx_ms (zq_or r175 r180) v0_210 (σ 0 1) f = zt_rs σ a c f by unfold zt_rs; rw [iv, fa, fc])]; exact i0) (by rw [q13, (show zx_ms (zq_or r175 r180) v0_210 (σ 0 1) (f + 1) = zt_rs σ a c (f + 1) by unfold zt_rs; rw [iv, fa, fc])]; exact i1)⟩)⟩
                    · show V 270 [some (ZR 0), none, none, none, none, some (ZI (σ 0 3)), some (ZI (zq_or r175 r180)), some (ZI v0_210), some (ZI x8_264), some (ZI x9_264), none, none] [] 41 σ_264
                      have msn := zx_ms_s (zq_or r175 r180) v0_210 (σ 0 1) (n := x9_264) (by omega)
                      have ms4 := zx_ms_4 (F := zq_or r175 r180) (n := x9_264 + 1) ib (show 0 ≤ σ 0 1 ∧ σ 0 1 ≤ 3 by omega) (by omega) (by omega)
                      have mnb := zx_mn_b (F := zq_or r175 r180) (f := x9_264) ib (show 0 ≤ σ 0 1 ∧ σ 0 1 ≤ 3 by omega)
                      have g1 := hFσ_264 0 1 (by omega)
                      refine zr_iload (pc := 270) hV dX12_layJoined_270 rfl ?_
                      refine zr_iload (pc := 272) hV dX12_layJoined_272 rfl ?_
                      refine zr_ishr (pc := 274) hV dX12_layJoined_274 ?_
                      have t31 := zq_shr_in (zq_or r175 r180) x9_264
                      refine zr_iconst (pc := 275) hV 1 dX12_layJoined_275 rfl ?_
                      refine zr_iand (pc := 276) hV dX12_layJoined_276 ?_
                      have t32 := zq_and_mask (zq_shr (zq_or r175 r180) x9_264) 1 1 2 (by decide) (by decide) (by decide)
                      have J299 : ∀ (v0_299 : Int), (0 ≤ v0_299 ∧ v0_299 ≤ 12) → (zq_hid (v0_299 = zx_mn (zq_or r175 r180) v0_210 (σ 0 1) x9_264)) → V 299 [some (ZR 0), none, none, none, none, some (ZI (σ 0 3)), some (ZI (zq_or r175 r180)), some (ZI v0_210), some (ZI x8_264), some (ZI x9_264), none, none] [ZI v0_299] 41 σ_264 := by
                        intro v0_299 hv0_299 hi299_0
                        show V 299 [some (ZR 0), none, none, none, none, some (ZI (σ 0 3)), some (ZI (zq_or r175 r180)), some (ZI v0_210), some (ZI x8_264), some (ZI x9_264), none, none] [ZI v0_299] 41 σ_264
                        refine zr_istore (pc := 299) hV [some (ZR 0), none, none, none, none, some (ZI (σ 0 3)), some (ZI (zq_or r175 r180)), some (ZI v0_210), some (ZI x8_264), some (ZI x9_264), some (ZI v0_299), none] dX12_layJoined_299 (by decide) rfl rfl ?_
                        have mv : v0_299 = zx_mn (zq_or r175 r180) v0_210 (σ 0 1) x9_264 := hi299_0
                        refine zr_iconst (pc := 301) hV 0 dX12_layJoined_301 rfl ?_
                        refine zr_istore (pc := 302) hV [some (ZR 0), none, none, none, none, some (ZI (σ 0 3)), some (ZI (zq_or r175 r180)), some (ZI v0_210), some (ZI x8_264), some (ZI x9_264), some (ZI v0_299), some (ZI 0)] dX12_layJoined_302 (by decide) rfl rfl ?_
                        have L304 : ∀ (fuel : Nat) (x11_304 : Int) (x8_304 : Int) (σ_304 : zq_S), (0 ≤ x11_304 ∧ x11_304 ≤ 8) → (0 ≤ x8_304 ∧ x8_304 ≤ 12) → (zx_T σ_304) → (∀ a i : Int, (¬ (a = 1 ∧ i = σ 0 3) ∧ ¬ (a = 2 ∧ 12 * σ 0 3 ≤ i) ∧ ¬ (a = 3 ∧ i = σ 0 3) ∧ ¬ (a = 4 ∧ i = σ 0 3) ∧ ¬ (a = 5 ∧ i = σ 0 3) ∧ ¬ (a = 6 ∧ 18 * σ 0 3 ≤ i) ∧ ¬ (a = 7 ∧ i = σ 0 3)) → σ_304 a i = σ a i) → (zx_C σ_304 (σ 0 3) (zq_or r175 r180) v0_210 (σ 0 1) x9_264 x8_304 x11_304) → (zq_hid (∀ i, σ_304 5 i = σ_76 5 i ∧ σ_304 6 i = σ_76 6 i ∧ σ_304 7 i = σ_76 7 i)) → (x8_304 = σ 0 2 - σ 0 61 + zx_ms (zq_or r175 r180) v0_210 (σ 0 1) x9_264 + x11_304) → (x11_304 ≤ v0_299) → (zq_hid (∀ i, σ_304 1 i = σ_76 1 i ∧ σ_304 3 i = σ_76 3 i ∧ σ_304 4 i = σ_76 4 i)) → (zq_hid (∀ i, 0 ≤ i → i < σ 0 2 - σ 0 61 → σ_304 2 (12 * (σ 0 3) + i) = zt_bi (σ 0 2) room i)) → (zq_hid (∀ f, 0 ≤ f → f < x9_264 → ∀ i, σ 0 2 - σ 0 61 + zx_ms (zq_or r175 r180) v0_210 (σ 0 1) f ≤ i → i < σ 0 2 - σ 0 61 + zx_ms (zq_or r175 r180) v0_210 (σ 0 1) (f + 1) → σ_304 2 (12 * (σ 0 3) + i) = 2 + f)) → (zq_hid (∀ i, σ 0 2 - σ 0 61 + zx_ms (zq_or r175 r180) v0_210 (σ 0 1) x9_264 ≤ i → i < x8_304 → σ_304 2 (12 * (σ 0 3) + i) = 2 + x9_264)) → 8 - x11_304 < (fuel : Int) → V 304 [some (ZR 0), none, none, none, none, some (ZI (σ 0 3)), some (ZI (zq_or r175 r180)), some (ZI v0_210), some (ZI x8_304), some (ZI x9_264), some (ZI v0_299), some (ZI x11_304)] [] 41 σ_304 := by
                          intro fuel
                          induction fuel with
                          | zero =>
                            intro x11_304 x8_304 σ_304 hx11_304 hx8_304 hσ_304 hFσ_304 hi304_0 hi304_1 hi304_2 hi304_3 hi304_4 hi304_5 hi304_6 hi304_7 hm304
                            exfalso; omega
                          | succ fuel ih =>
                            intro x11_304 x8_304 σ_304 hx11_304 hx8_304 hσ_304 hFσ_304 hi304_0 hi304_1 hi304_2 hi304_3 hi304_4 hi304_5 hi304_6 hi304_7 hm304
                            have ih304 := ih
                            show V 304 [some (ZR 0), none, none, none, none, some (ZI (σ 0 3)), some (ZI (zq_or r175 r180)), some (ZI v0_210), some (ZI x8_304), some (ZI x9_264), some (ZI v0_299), some (ZI x11_304)] [] 41 σ_304
                            refine zr_iload (pc := 304) hV dX12_layJoined_304 rfl ?_
                            refine zr_iload (pc := 306) hV dX12_layJoined_306 rfl ?_
                            refine zr_icmp_ge (pc := 308) hV 337 dX12_layJoined_308 (by decide) (by omega) (by omega) (fun c33 => ?_) (fun c33 => ?_)
                            · show V 337 [some (ZR 0), none, none, none, none, some (ZI (σ 0 3)), some (ZI (zq_or r175 r180)), some (ZI v0_210), some (ZI x8_304), some (ZI x9_264), some (ZI v0_299), some (ZI x11_304)] [] 41 σ_304
                              refine zr_iinc (pc := 337) hV [some (ZR 0), none, none, none, none, some (ZI (σ 0 3)), some (ZI (zq_or r175 r180)), some (ZI v0_210), some (ZI x8_304), some (ZI (x9_264 + 1)), some (ZI v0_299), some (ZI x11_304)] (x9_264 + 1) dX12_layJoined_337 rfl rfl (by decide) rfl rfl ?_
                              refine zr_goto (pc := 340) hV 264 dX12_layJoined_340 (by decide) ?_
                              refine zr_sub (pc := 264) hV [some (ZR 0), none, none, none, none, some (ZI (σ 0 3)), some (ZI (zq_or r175 r180)), some (ZI v0_210), some (ZI x8_304), some (ZI (x9_264 + 1)), none, none] (⟨rfl, rfl, rfl, rfl, rfl, rfl, trivial⟩) ?_
                              exact ih264 x8_304 (x9_264 + 1) σ_304 (by omega) (by omega) hσ_304 hFσ_304 (zx_C_next (by omega) hi304_0) hi304_1 (by omega) hi304_4 hi304_5 (fun f h0 h1 i i0 i1 => if hc : f = x9_264 then (by rw [hc] at i0 i1 ⊢; exact hi304_7 i i0 (by omega)) else hi304_6 f h0 (by omega) i i0 i1) (by omega)
                            · show V 311 [some (ZR 0), none, none, none, none, some (ZI (σ 0 3)), some (ZI (zq_or r175 r180)), some (ZI v0_210), some (ZI x8_304), some (ZI x9_264), some (ZI v0_299), some (ZI x11_304)] [] 41 σ_304
                              refine zr_aload_n (pc := 311) hV dX12_layJoined_311 rfl rfl ?_
                              refine zr_getR (pc := 312) hV 5 2 dX12_layJoined_312 fX12_23 rfl rfl rfl (by decide) (zx_g5 hσ_304) (by omega) ?_
                              refine zr_bipush (pc := 315) hV 12 dX12_layJoined_315 (by decide) ?_
                              refine zr_iload (pc := 317) hV dX12_layJoined_317 rfl ?_
                              refine zr_imul (pc := 319) hV dX12_layJoined_319 ?_
                              refine zr_iload (pc := 320) hV dX12_layJoined_320 rfl ?_
                              refine zr_iadd (pc := 322) hV dX12_layJoined_322 ?_
                              refine zr_iconst (pc := 323) hV 2 dX12_layJoined_323 rfl ?_
                              refine zr_iload (pc := 324) hV dX12_layJoined_324 rfl ?_
                              refine zr_iadd (pc := 326) hV dX12_layJoined_326 ?_
                              refine zr_iast (pc := 327) hV dX12_layJoined_327 rfl (by decide) rfl (by omega) (fun σ327 eσ327 => ?_)
                              have hσ327 : zx_T σ327 := zx_ua2 eσ327 hσ_304 (by omega)
                              have hFσ327 : ∀ a i : Int, (¬ (a = 1 ∧ i = σ 0 3) ∧ ¬ (a = 2 ∧ 12 * σ 0 3 ≤ i) ∧ ¬ (a = 3 ∧ i = σ 0 3) ∧ ¬ (a = 4 ∧ i = σ 0 3) ∧ ¬ (a = 5 ∧ i = σ 0 3) ∧ ¬ (a = 6 ∧ 18 * σ 0 3 ≤ i) ∧ ¬ (a = 7 ∧ i = σ 0 3)) → σ327 a i = σ a i := fun a i h => by rw [eσ327, zq_up_ne (fun q => h.2.1 ⟨q.1, by omega⟩)]; exact hFσ_304 a i h
                              refine zr_iinc (pc := 328) hV [some (ZR 0), none, none, none, none, some (ZI (σ 0 3)), some (ZI (zq_or r175 r180)), some (ZI v0_210), some (ZI (x8_304 + 1)), some (ZI x9_264), some (ZI v0_299), some (ZI x11_304)] (x8_304 + 1) dX12_layJoined_328 rfl rfl (by decide) rfl rfl ?_
                              refine zr_iinc (pc := 331) hV [some (ZR 0), none, none, none, none, some (ZI (σ 0 3)), some (ZI (zq_or r175 r180)), some (ZI v0_210), some (ZI (x8_304 + 1)), some (ZI x9_264), some (ZI v0_299), some (ZI (x11_304 + 1))] (x11_304 + 1) dX12_layJoined_331 rfl rfl (by decide) rfl rfl ?_
                              refine zr_goto (pc := 334) hV 304 dX12_layJoined_334 (by decide) ?_
                              exact ih304 (x11_304 + 1) (x8_304 + 1) σ327 (by omega) (by omega) hσ327 hFσ327 (zx_C_put (by omega) eσ327 hi304_0) (fun i => ⟨by rw [eσ327, zq_up_ne (by omega)]; exact (hi304_1 i).1, by rw [eσ327, zq_up_ne (by omega)]; exact (hi304_1 i).2.1, by rw [eσ327, zq_up_ne (by omega)]; exact (hi304_1 i).2.2⟩) (by omega) (by omega) (fun i => ⟨by rw [eσ327, zq_up_ne (by omega)]; exact (hi304_4 i).1, by rw [eσ327, zq_up_ne (by omega)]; exact (hi304_4 i).2.1, by rw [eσ327, zq_up_ne (by omega)]; exact (hi304_4 i).2.2⟩) (fun i h0 h1 => by have ml := zx_ms_4m (F := zq_or r175 r180) (m := 0) (n := x9_264) ib (show 0 ≤ σ 0 1 ∧ σ 0 1 ≤ 3 by omega) (by omega) (by omega); rw [eσ327, zq_up_ne (by omega)]; exact hi304_5 i h0 h1) (fun f h0 h1 i i0 i1 => by have ml := zx_ms_4m (F := zq_or r175 r180) (m := f + 1) (n := x9_264) ib (show 0 ≤ σ 0 1 ∧ σ 0 1 ≤ 3 by omega) (by omega) (by omega); rw [eσ327, zq_up_ne (by omega)]; exact hi304_6 f h0 h1 i i0 i1) (fun i h0 h1 => if hc : i = x8_304 then (by rw [hc, eσ327, zq_up_same]) else (by rw [eσ327, zq_up_ne (by omega)]; exact hi304_7 i h0 (by omega))) (by omega)
                        exact L304 (8 - (0 : Int) + 1 : Int).toNat 0 x8_264 σ_264 (by omega) (by omega) hσ_264 hFσ_264 hi264_0 hi264_1 (by omega) (by omega) hi264_3 hi264_4 hi264_5 (fun i h0 h1 => absurd h1 (by omega)) (by omega)
                      refine zr_if_ne (pc := 277) hV 284 dX12_layJoined_277 (by decide) (by omega) (fun c34 => ?_) (fun c34 => ?_)
                      · show V 284 [some (ZR 0), none, none, none, none, some (ZI (σ 0 3)), some (ZI (zq_or r175 r180)), some (ZI v0_210), some (ZI x8_264), some (ZI x9_264), none, none] [] 41 σ_264
                        refine zr_iload (pc := 284) hV dX12_layJoined_284 rfl ?_
                        refine zr_iconst (pc := 286) hV 3 dX12_layJoined_286 rfl ?_
                        refine zr_icmp_ne (pc := 287) hV 295 dX12_layJoined_287 (by decide) (by omega) ⟨by decide, by decide⟩ (fun c35 => ?_) (fun c35 => ?_)
                        · show V 295 [some (ZR 0), none, none, none, none, some (ZI (σ 0 3)), some (ZI (zq_or r175 r180)), some (ZI v0_210), some (ZI x8_264), some (ZI x9_264), none, none] [] 41 σ_264
                          refine zr_aload_n (pc := 295) hV dX12_layJoined_295 rfl rfl ?_
                          refine zr_getI (pc := 296) hV 1 dX12_layJoined_296 fX12_13 rfl rfl rfl (by decide) ?_
                          have t36 := zx_g1 hσ_264
                          have t37 : σ_264 0 1 = σ 0 1 := hFσ_264 _ _ (by omega)
                          exact J299 (σ_264 0 1) (by omega) (by unfold zq_hid zx_mn; rw [if_neg (by omega), if_neg (by omega)]; omega)
                        · show V 290 [some (ZR 0), none, none, none, none, some (ZI (σ 0 3)), some (ZI (zq_or r175 r180)), some (ZI v0_210), some (ZI x8_264), some (ZI x9_264), none, none] [] 41 σ_264
                          refine zr_iload (pc := 290) hV dX12_layJoined_290 rfl ?_
                          refine zr_goto (pc := 292) hV 299 dX12_layJoined_292 (by decide) ?_
                          exact J299 v0_210 (by omega) (by unfold zq_hid zx_mn; rw [if_neg (by omega), if_pos (by omega)])
                      · show V 280 [some (ZR 0), none, none, none, none, some (ZI (σ 0 3)), some (ZI (zq_or r175 r180)), some (ZI v0_210), some (ZI x8_264), some (ZI x9_264), none, none] [] 41 σ_264
                        refine zr_iconst (pc := 280) hV 0 dX12_layJoined_280 rfl ?_
                        refine zr_goto (pc := 281) hV 299 dX12_layJoined_281 (by decide) ?_
                        exact J299 0 (by omega) (by unfold zq_hid zx_mn; rw [if_pos (by omega)])
                refine zr_sub (pc := 264) hV [some (ZR 0), none, none, none, none, some (ZI (σ 0 3)), some (ZI (zq_or r175 r180)), some (ZI v0_210), some (ZI x8_215), some (ZI 0), none, none] (⟨rfl, rfl, rfl, rfl, rfl, rfl, trivial⟩) ?_
                exact L264 (4 - (0 : Int) + 1 : Int).toNat x8_215 0 σ_215 (by omega) (by omega) hσ_215 hFσ_215 hi215_0 hi215_1 (by omega) hi215_3 (fun i h0 h1 => hi215_4 i h0 (by omega)) (fun f h0 h1 => absurd h1 (by omega)) (by omega)
              · show V 229 [some (ZR 0), none, none, some (ZI room), none, some (ZI (σ 0 3)), some (ZI (zq_or r175 r180)), some (ZI v0_210), some (ZI x8_215), none, none, none] [] 41 σ_215
                refine zr_aload_n (pc := 229) hV dX12_layJoined_229 rfl rfl ?_
                refine zr_getR (pc := 230) hV 5 2 dX12_layJoined_230 fX12_23 rfl rfl rfl (by decide) (zx_g5 hσ_215) (by omega) ?_
                refine zr_bipush (pc := 233) hV 12 dX12_layJoined_233 (by decide) ?_
                refine zr_iload (pc := 235) hV dX12_layJoined_235 rfl ?_
                refine zr_imul (pc := 237) hV dX12_layJoined_237 ?_
                refine zr_iload (pc := 238) hV dX12_layJoined_238 rfl ?_
                refine zr_iadd (pc := 240) hV dX12_layJoined_240 ?_
                refine zr_iload_n (pc := 241) hV dX12_layJoined_241 rfl rfl ?_
                refine zr_aload_n (pc := 242) hV dX12_layJoined_242 rfl rfl ?_
                refine zr_getI (pc := 243) hV 2 dX12_layJoined_243 fX12_16 rfl rfl rfl (by decide) ?_
                have t38 := zx_g2 hσ_215
                have t39 : σ_215 0 2 = σ 0 2 := hFσ_215 _ _ (by omega)
                refine zr_iconst (pc := 246) hV 1 dX12_layJoined_246 rfl ?_
                refine zr_isub (pc := 247) hV dX12_layJoined_247 ?_
                refine zr_iload (pc := 248) hV dX12_layJoined_248 rfl ?_
                refine zr_isub (pc := 250) hV dX12_layJoined_250 ?_
                refine zr_ishr (pc := 251) hV dX12_layJoined_251 ?_
                have t40 := zq_shr_nn (x := room) (y := ((σ_215 0 2) - 1) - x8_215) (by omega)
                refine zr_iconst (pc := 252) hV 1 dX12_layJoined_252 rfl ?_
                refine zr_iand (pc := 253) hV dX12_layJoined_253 ?_
                have t41 := zq_and_mask (zq_shr room (((σ_215 0 2) - 1) - x8_215)) 1 1 2 (by decide) (by decide) (by decide)
                refine zr_iast (pc := 254) hV dX12_layJoined_254 rfl (by decide) rfl (by omega) (fun σ254 eσ254 => ?_)
                have hσ254 : zx_T σ254 := zx_ua2 eσ254 hσ_215 (by omega)
                have hFσ254 : ∀ a i : Int, (¬ (a = 1 ∧ i = σ 0 3) ∧ ¬ (a = 2 ∧ 12 * σ 0 3 ≤ i) ∧ ¬ (a = 3 ∧ i = σ 0 3) ∧ ¬ (a = 4 ∧ i = σ 0 3) ∧ ¬ (a = 5 ∧ i = σ 0 3) ∧ ¬ (a = 6 ∧ 18 * σ 0 3 ≤ i) ∧ ¬ (a = 7 ∧ i = σ 0 3)) → σ254 a i = σ a i := fun a i h => by rw [eσ254, zq_up_ne (fun q => h.2.1 ⟨q.1, by omega⟩)]; exact hFσ_215 a i h
                refine zr_iinc (pc := 255) hV [some (ZR 0), none, none, some (ZI room), none, some (ZI (σ 0 3)), some (ZI (zq_or r175 r180)), some (ZI v0_210), some (ZI (x8_215 + 1)), none, none, none] (x8_215 + 1) dX12_layJoined_255 rfl rfl (by decide) rfl rfl ?_
                refine zr_goto (pc := 258) hV 215 dX12_layJoined_258 (by decide) ?_
                exact ih215 (x8_215 + 1) σ254 (by omega) hσ254 hFσ254 (zx_C_bit (by omega) eσ254 (by omega) hi215_0) (fun i => ⟨by rw [eσ254, zq_up_ne (by omega)]; exact (hi215_1 i).1, by rw [eσ254, zq_up_ne (by omega)]; exact (hi215_1 i).2.1, by rw [eσ254, zq_up_ne (by omega)]; exact (hi215_1 i).2.2⟩) (by omega) (fun i => ⟨by rw [eσ254, zq_up_ne (by omega)]; exact (hi215_3 i).1, by rw [eσ254, zq_up_ne (by omega)]; exact (hi215_3 i).2.1, by rw [eσ254, zq_up_ne (by omega)]; exact (hi215_3 i).2.2⟩) (fun i h0 h1 => if hc : i = x8_215 then (by rw [hc, eσ254, zq_up_same, hFσ_215 0 2 (by omega)]; rfl) else (by rw [eσ254, zq_up_ne (by omega)]; exact hi215_4 i h0 (by omega))) (by omega)
          exact L215 (12 - (0 : Int) + 1 : Int).toNat 0 σ_76 (by omega) hσ_76 hFσ_76 (zx_C_0 _ _ _ _ _) (fun i => ⟨rfl, rfl, rfl⟩) (by omega) (fun i => ⟨rfl, rfl, rfl⟩) (fun i h0 h1 => absurd h1 (by omega)) (by omega)
        refine zr_if_le (pc := 192) hV 204 dX12_layJoined_192 (by decide) (by omega) (fun c42 => ?_) (fun c42 => ?_)
        · show V 204 [some (ZR 0), some (ZI a), some (ZI c), some (ZI room), none, some (ZI (σ 0 3)), some (ZI (zq_or r175 r180)), none, none, none, none, none] [] 41 σ_76
          refine zr_aload_n (pc := 204) hV dX12_layJoined_204 rfl rfl ?_
          refine zr_iload_n (pc := 205) hV dX12_layJoined_205 rfl rfl ?_
          refine zr_iconst (pc := 206) hV 3 dX12_layJoined_206 rfl ?_
          refine zr_callVp (pc := 207) hV [ZI c, ZI 3] (st := []) (c_X12_fieldBits (σ := σ_76) hσ_76 c 3 (by omega) (by omega)) dX12_layJoined_207 mX12_184 rfl (by decide) (by decide) (Nat.le_of_ble_eq_true rfl) (Nat.le_refl _) (fun r207 hr207 pr207 => ?_)
          have t43 := zx_g2 hσ_76
          have t44 : σ_76 0 2 = σ 0 2 := hFσ_76 _ _ (by omega)
          refine zr_sub (pc := 210) hV [some (ZR 0), none, none, some (ZI room), none, some (ZI (σ 0 3)), some (ZI (zq_or r175 r180)), none, none, none, none, none] (⟨rfl, rfl, rfl, rfl, trivial⟩) ?_
          exact J210 r207 (by omega) (by unfold zq_hid; rw [← ca, ← cc, if_neg (by omega)]; omega)
        · show V 195 [some (ZR 0), some (ZI a), some (ZI c), some (ZI room), none, some (ZI (σ 0 3)), some (ZI (zq_or r175 r180)), none, none, none, none, none] [] 41 σ_76
          refine zr_aload_n (pc := 195) hV dX12_layJoined_195 rfl rfl ?_
          refine zr_iload_n (pc := 196) hV dX12_layJoined_196 rfl rfl ?_
          refine zr_iconst (pc := 197) hV 3 dX12_layJoined_197 rfl ?_
          refine zr_callVp (pc := 198) hV [ZI a, ZI 3] (st := []) (c_X12_fieldBits (σ := σ_76) hσ_76 a 3 (by omega) (by omega)) dX12_layJoined_198 mX12_184 rfl (by decide) (by decide) (Nat.le_of_ble_eq_true rfl) (Nat.le_refl _) (fun r198 hr198 pr198 => ?_)
          have t45 := zx_g2 hσ_76
          have t46 : σ_76 0 2 = σ 0 2 := hFσ_76 _ _ (by omega)
          refine zr_goto (pc := 201) hV 210 dX12_layJoined_201 (by decide) ?_
          refine zr_sub (pc := 210) hV [some (ZR 0), none, none, some (ZI room), none, some (ZI (σ 0 3)), some (ZI (zq_or r175 r180)), none, none, none, none, none] (⟨rfl, rfl, rfl, rfl, trivial⟩) ?_
          exact J210 r198 (by omega) (by unfold zq_hid; rw [← ca, ← cc, if_pos (by omega)]; omega)
      · show V 91 [some (ZR 0), some (ZI a), some (ZI c), some (ZI room), none, some (ZI (σ 0 3)), some (ZI x6_76), none, none, none, none, none] [] 41 σ_76
        refine zr_iload (pc := 91) hV dX12_layJoined_91 rfl ?_
        refine zr_bipush (pc := 93) hV 6 dX12_layJoined_93 (by decide) ?_
        refine zr_aload_n (pc := 95) hV dX12_layJoined_95 rfl rfl ?_
        refine zr_getR (pc := 96) hV 8 5 dX12_layJoined_96 fX12_32 rfl rfl rfl (by decide) (zx_g8 hσ_76) (by omega) ?_
        refine zr_iload_n (pc := 99) hV dX12_layJoined_99 rfl rfl ?_
        refine zr_iald (pc := 100) hV dX12_layJoined_100 rfl (by decide) rfl (by omega) ?_
        have t47 := zx_ga5 hσ_76 a
        refine zr_imul (pc := 101) hV dX12_layJoined_101 ?_
        have J110 : ∀ (v0_110 : Int), (0 ≤ v0_110 ∧ v0_110 ≤ 1) → ((v0_110 = 1 ∧ x6_76 < 6 * σ_76 5 a) ∨ (v0_110 = 0 ∧ 6 * σ_76 5 a ≤ x6_76)) → V 110 [some (ZR 0), some (ZI a), some (ZI c), some (ZI room), none, some (ZI (σ 0 3)), some (ZI x6_76), none, none, none, none, none] [ZI v0_110] 41 σ_76 := by
          intro v0_110 hv0_110 hi110_0
          show V 110 [some (ZR 0), some (ZI a), some (ZI c), some (ZI room), none, some (ZI (σ 0 3)), some (ZI x6_76), none, none, none, none, none] [ZI v0_110] 41 σ_76
          refine zr_istore (pc := 110) hV [some (ZR 0), some (ZI a), some (ZI c), some (ZI room), none, some (ZI (σ 0 3)), some (ZI x6_76), some (ZI v0_110), none, none, none, none] dX12_layJoined_110 (by decide) rfl rfl ?_
          refine zr_aload_n (pc := 112) hV dX12_layJoined_112 rfl rfl ?_
          refine zr_getR (pc := 113) hV 9 6 dX12_layJoined_113 fX12_35 rfl rfl rfl (by decide) (zx_g9 hσ_76) (by omega) ?_
          refine zr_bipush (pc := 116) hV 18 dX12_layJoined_116 (by decide) ?_
          refine zr_iload (pc := 118) hV dX12_layJoined_118 rfl ?_
          refine zr_imul (pc := 120) hV dX12_layJoined_120 ?_
          refine zr_iload (pc := 121) hV dX12_layJoined_121 rfl ?_
          refine zr_iadd (pc := 123) hV dX12_layJoined_123 ?_
          refine zr_iload (pc := 124) hV dX12_layJoined_124 rfl ?_
          have J166 : ∀ (v0_166 : Int), ((-2147483648) ≤ v0_166 ∧ v0_166 ≤ 2147483647) → (zx_ty6 (18 * (σ 0 3) + x6_76) v0_166) → (zq_hid (x6_76 % 6 = 4 → 0 ≤ v0_166)) → (zq_hid (v0_166 = (if x6_76 < 6 * σ 5 a then σ 6 (18 * a + x6_76) else σ 6 (18 * c + x6_76 - 6 * σ 5 a)))) → V 166 [some (ZR 0), some (ZI a), some (ZI c), some (ZI room), none, some (ZI (σ 0 3)), some (ZI x6_76), none, none, none, none, none] [ZI v0_166, ZI ((18 * (σ 0 3)) + x6_76), ZR 6] 41 σ_76 := by
            intro v0_166 hv0_166 hi166_0 hi166_1 hi166_2
            show V 166 [some (ZR 0), some (ZI a), some (ZI c), some (ZI room), none, some (ZI (σ 0 3)), some (ZI x6_76), none, none, none, none, none] [ZI v0_166, ZI ((18 * (σ 0 3)) + x6_76), ZR 6] 41 σ_76
            refine zr_iast (pc := 166) hV dX12_layJoined_166 rfl (by decide) rfl (by omega) (fun σ166 eσ166 => ?_)
            have hσ166 : zx_T σ166 := zx_ua6 eσ166 hσ_76 hi166_0
            have hFσ166 : ∀ a i : Int, (¬ (a = 1 ∧ i = σ 0 3) ∧ ¬ (a = 2 ∧ 12 * σ 0 3 ≤ i) ∧ ¬ (a = 3 ∧ i = σ 0 3) ∧ ¬ (a = 4 ∧ i = σ 0 3) ∧ ¬ (a = 5 ∧ i = σ 0 3) ∧ ¬ (a = 6 ∧ 18 * σ 0 3 ≤ i) ∧ ¬ (a = 7 ∧ i = σ 0 3)) → σ166 a i = σ a i := fun a i h => by rw [eσ166, zq_up_ne (fun q => h.2.2.2.2.2.1 ⟨q.1, by omega⟩)]; exact hFσ_76 a i h
            have e5 : σ166 5 (σ 0 3) = σ_76 5 (σ 0 3) := by rw [eσ166, zq_up_ne (by omega)]
            have e7 : σ166 7 (σ 0 3) = σ_76 7 (σ 0 3) := by rw [eσ166, zq_up_ne (by omega)]
            refine zr_iinc (pc := 167) hV [some (ZR 0), some (ZI a), some (ZI c), some (ZI room), none, some (ZI (σ 0 3)), some (ZI (x6_76 + 1)), none, none, none, none, none] (x6_76 + 1) dX12_layJoined_167 rfl rfl (by decide) rfl rfl ?_
            refine zr_goto (pc := 170) hV 76 dX12_layJoined_170 (by decide) ?_
            exact ih76 (x6_76 + 1) σ166 (by omega) hσ166 hFσ166 (fun q h1 h2 h3 => if hc : q = x6_76 then (by rw [hc, eσ166, zq_up_same]; exact hi166_1 (by omega)) else (by rw [eσ166, zq_up_ne (by omega)]; exact hi76_0 q h1 (by omega) h3)) (fun i => by rw [eσ166, zq_up_ne (by omega)]; exact hi76_1 i) (by omega) (by omega) (fun q h1 h2 => if hc : q = x6_76 then (by rw [hc, eσ166, zq_up_same]; exact hi166_2) else (by rw [eσ166, zq_up_ne (by omega)]; exact hi76_4 q h1 (by omega))) ⟨by rw [eσ166, zq_up_ne (by omega)]; exact hi76_5.1, by rw [eσ166, zq_up_ne (by omega)]; exact hi76_5.2.1, by rw [eσ166, zq_up_ne (by omega)]; exact hi76_5.2.2.1, by rw [eσ166, zq_up_ne (by omega)]; exact hi76_5.2.2.2⟩ (by omega)
          refine zr_if_eq (pc := 126) hV 144 dX12_layJoined_126 (by decide) (by omega) (fun c48 => ?_) (fun c48 => ?_)
          · show V 144 [some (ZR 0), some (ZI a), some (ZI c), some (ZI room), none, some (ZI (σ 0 3)), some (ZI x6_76), some (ZI v0_110), none, none, none, none] [ZI ((18 * (σ 0 3)) + x6_76), ZR 6] 41 σ_76
            refine zr_aload_n (pc := 144) hV dX12_layJoined_144 rfl rfl ?_
            refine zr_getR (pc := 145) hV 9 6 dX12_layJoined_145 fX12_35 rfl rfl rfl (by decide) (zx_g9 hσ_76) (by omega) ?_
            refine zr_bipush (pc := 148) hV 18 dX12_layJoined_148 (by decide) ?_
            refine zr_iload_n (pc := 150) hV dX12_layJoined_150 rfl rfl ?_
            refine zr_imul (pc := 151) hV dX12_layJoined_151 ?_
            refine zr_iload (pc := 152) hV dX12_layJoined_152 rfl ?_
            refine zr_iadd (pc := 154) hV dX12_layJoined_154 ?_
            refine zr_bipush (pc := 155) hV 6 dX12_layJoined_155 (by decide) ?_
            refine zr_aload_n (pc := 157) hV dX12_layJoined_157 rfl rfl ?_
            refine zr_getR (pc := 158) hV 8 5 dX12_layJoined_158 fX12_32 rfl rfl rfl (by decide) (zx_g8 hσ_76) (by omega) ?_
            refine zr_iload_n (pc := 161) hV dX12_layJoined_161 rfl rfl ?_
            refine zr_iald (pc := 162) hV dX12_layJoined_162 rfl (by decide) rfl (by omega) ?_
            have t49 := zx_ga5 hσ_76 a
            refine zr_imul (pc := 163) hV dX12_layJoined_163 ?_
            refine zr_isub (pc := 164) hV dX12_layJoined_164 ?_
            refine zr_iald (pc := 165) hV dX12_layJoined_165 rfl (by decide) rfl (by omega) ?_
            have t50 := zx_ac hσ_76 (((18 * c) + x6_76) - (6 * (σ_76 5 a)))
            refine zr_sub (pc := 166) hV [some (ZR 0), some (ZI a), some (ZI c), some (ZI room), none, some (ZI (σ 0 3)), some (ZI x6_76), none, none, none, none, none] (⟨rfl, rfl, rfl, rfl, rfl, rfl, trivial⟩) ?_
            exact J166 (σ_76 6 (((18 * c) + x6_76) - (6 * (σ_76 5 a)))) (by omega) (zx_ty6_mv hσ_76 (by omega)) (fun h => by obtain ⟨m, hm⟩ : ∃ m, x6_76 - 6 * σ_76 5 a = 6 * m + 4 := ⟨(x6_76 - 6 * σ_76 5 a) / 6, by omega⟩; have z := Ac m (by omega) (by omega); rw [show 18 * c + x6_76 - 6 * σ_76 5 a = 18 * c + 6 * m + 4 by omega]; exact z) (by unfold zq_hid; rw [if_neg (by omega), ← f5a]; exact hFσ_76 6 _ (by omega))
          · show V 129 [some (ZR 0), some (ZI a), some (ZI c), some (ZI room), none, some (ZI (σ 0 3)), some (ZI x6_76), some (ZI v0_110), none, none, none, none] [ZI ((18 * (σ 0 3)) + x6_76), ZR 6] 41 σ_76
            refine zr_aload_n (pc := 129) hV dX12_layJoined_129 rfl rfl ?_
            refine zr_getR (pc := 130) hV 9 6 dX12_layJoined_130 fX12_35 rfl rfl rfl (by decide) (zx_g9 hσ_76) (by omega) ?_
            refine zr_bipush (pc := 133) hV 18 dX12_layJoined_133 (by decide) ?_
            refine zr_iload_n (pc := 135) hV dX12_layJoined_135 rfl rfl ?_
            refine zr_imul (pc := 136) hV dX12_layJoined_136 ?_
            refine zr_iload (pc := 137) hV dX12_layJoined_137 rfl ?_
            refine zr_iadd (pc := 139) hV dX12_layJoined_139 ?_
            refine zr_iald (pc := 140) hV dX12_layJoined_140 rfl (by decide) rfl (by omega) ?_
            have t51 := zx_ac hσ_76 ((18 * a) + x6_76)
            refine zr_goto (pc := 141) hV 166 dX12_layJoined_141 (by decide) ?_
            refine zr_sub (pc := 166) hV [some (ZR 0), some (ZI a), some (ZI c), some (ZI room), none, some (ZI (σ 0 3)), some (ZI x6_76), none, none, none, none, none] (⟨rfl, rfl, rfl, rfl, rfl, rfl, trivial⟩) ?_
            exact J166 (σ_76 6 ((18 * a) + x6_76)) (by omega) (zx_ty6_mv hσ_76 (by omega)) (fun h => by obtain ⟨m, hm⟩ : ∃ m, x6_76 = 6 * m + 4 := ⟨x6_76 / 6, by omega⟩; have z := Aa m (by omega) (by omega); rw [hm, show 18 * a + (6 * m + 4) = 18 * a + 6 * m + 4 by omega]; exact z) (by unfold zq_hid; rw [if_pos (by omega)]; exact hFσ_76 6 _ (by omega))
        refine zr_icmp_ge (pc := 102) hV 109 dX12_layJoined_102 (by decide) (by omega) (by omega) (fun c52 => ?_) (fun c52 => ?_)
        · show V 109 [some (ZR 0), some (ZI a), some (ZI c), some (ZI room), none, some (ZI (σ 0 3)), some (ZI x6_76), none, none, none, none, none] [] 41 σ_76
          refine zr_iconst (pc := 109) hV 0 dX12_layJoined_109 rfl ?_
          exact J110 0 (by omega) (by omega)
        · show V 105 [some (ZR 0), some (ZI a), some (ZI c), some (ZI room), none, some (ZI (σ 0 3)), some (ZI x6_76), none, none, none, none, none] [] 41 σ_76
          refine zr_iconst (pc := 105) hV 1 dX12_layJoined_105 rfl ?_
          refine zr_goto (pc := 106) hV 110 dX12_layJoined_106 (by decide) ?_
          exact J110 1 (by omega) (by omega)
  refine zr_sub (pc := 76) hV [some (ZR 0), some (ZI a), some (ZI c), some (ZI room), none, some (ZI (σ 0 3)), some (ZI 0), none, none, none, none, none] (⟨rfl, rfl, rfl, rfl, rfl, rfl, trivial⟩) ?_
  exact L76 (18 - (0 : Int) + 1 : Int).toNat 0 σ72 (by omega) hσ72 hFσ72 (fun q h1 h2 h3 => absurd h2 (by omega)) (fun i => by rw [eσ72, zq_up_ne (by omega), eσ50, zq_up_ne (by omega), eσ30, zq_up_ne (by omega), eσ22, zq_up_ne (by omega), eσ14, zq_up_ne (by omega)]) (by omega) (by omega) (fun q h1 h2 => absurd h2 (by omega)) ⟨by rw [eσ72, zq_up_ne (by omega), eσ50, zq_up_ne (by omega), eσ30, zq_up_ne (by omega), eσ22, zq_up_ne (by omega), eσ14, zq_up_same], by rw [eσ72, zq_up_ne (by omega), eσ50, zq_up_ne (by omega), eσ30, zq_up_ne (by omega), eσ22, zq_up_same], by rw [eσ72, zq_up_ne (by omega), eσ50, zq_up_ne (by omega), eσ30, zq_up_same], by omega⟩ (by omega)
