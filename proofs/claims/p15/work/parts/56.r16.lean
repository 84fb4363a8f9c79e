set_option maxHeartbeats 800000 in
theorem c_X12_emit2 {σ : zq_S} (hσ : zx_T σ) (o d s t i : Int) (q0 : 0 ≤ o ∧ o ≤ 20) (q1 : zq_in d) (q2 : zq_in s) (q3 : zq_in t) (q4 : zq_in i) (q5 : σ 0 54 < 80) (Bσ : zx_MB σ) : zq_C zx_w yX12_emit cX12_emit 7 (none) 2 53 41 41 [ZR 0, ZI o, ZI d, ZI s, ZI t, ZI i] σ (zq_pv (fun τ => zx_T τ ∧ (∀ a i : Int, (¬ (a = 0 ∧ i = 54) ∧ ¬ (a = 0 ∧ i = 55) ∧ a ≠ 19 ∧ a ≠ 33) → τ a i = σ a i) ∧ (τ 0 54 = σ 0 54 + 1) ∧ zx_MB τ)) := by
  refine zq_C_of (by decide) (Nat.le_refl _) (Nat.le_of_ble_eq_true rfl) [some (ZR 0), some (ZI o), some (ZI d), some (ZI s), some (ZI t), some (ZI i), none] rfl (fun V hV => ?_)
  show V 0 [some (ZR 0), some (ZI o), some (ZI d), some (ZI s), some (ZI t), some (ZI i), none] [] 41 σ
  refine zr_iconst (pc := 0) hV 1 dX12_emit_0 rfl ?_
  refine zr_aload_n (pc := 1) hV dX12_emit_1 rfl rfl ?_
  refine zr_getI (pc := 2) hV 1 dX12_emit_2 fX12_13 rfl rfl rfl (by decide) ?_
  have t1 := zx_g1 hσ
  refine zr_ishl (pc := 5) hV dX12_emit_5 ?_
  have t2 := zx_shl_one (y := σ 0 1) 3 8 (by decide) (by decide) (by omega)
  refine zr_istore (pc := 6) hV [some (ZR 0), some (ZI o), some (ZI d), some (ZI s), some (ZI t), some (ZI i), some (ZI (zq_shl 1 (σ 0 1)))] dX12_emit_6 (by decide) rfl rfl ?_
  refine zr_aload_n (pc := 8) hV dX12_emit_8 rfl rfl ?_
  refine zr_aload_n (pc := 9) hV dX12_emit_9 rfl rfl ?_
  refine zr_getI (pc := 10) hV 55 dX12_emit_10 fX12_443 rfl rfl rfl (by decide) ?_
  have t3 := zx_g55 hσ
  have J40 : ∀ (v0_40 : Int), (0 ≤ v0_40 ∧ v0_40 ≤ 1) → V 40 [some (ZR 0), some (ZI o), some (ZI d), some (ZI s), some (ZI t), some (ZI i), none] [ZI v0_40, ZR 0] 41 σ := by
    intro v0_40 hv0_40
    show V 40 [some (ZR 0), some (ZI o), some (ZI d), some (ZI s), some (ZI t), some (ZI i), none] [ZI v0_40, ZR 0] 41 σ
    refine zr_putZ (pc := 40) hV 55 dX12_emit_40 fX12_443 rfl rfl rfl (by omega) rfl (by decide) (fun σ40 eσ40 => ?_)
    have hσ40 : zx_T σ40 := zx_u55 eσ40 hσ (by omega)
    have hFσ40 : ∀ a i : Int, (¬ (a = 0 ∧ i = 54) ∧ ¬ (a = 0 ∧ i = 55) ∧ a ≠ 19 ∧ a ≠ 33) → σ40 a i = σ a i := fun a i h => by rw [eσ40, zq_up_ne h.2.1]
    have Bσ40 : zx_MB σ40 := zx_MB_fr (fun i => by rw [eσ40]; exact zq_up_ne (by omega)) (by rw [eσ40]; exact zq_up_ne (by omega)) (by rw [eσ40]; exact zq_up_ne (by omega)) Bσ
    refine zr_aload_n (pc := 43) hV dX12_emit_43 rfl rfl ?_
    refine zr_getR (pc := 44) hV 32 19 dX12_emit_44 fX12_78 rfl rfl rfl (by decide) (zx_g32 hσ40) (by omega) ?_
    refine zr_iconst (pc := 47) hV 0 dX12_emit_47 rfl ?_
    refine zr_iload_n (pc := 48) hV dX12_emit_48 rfl rfl ?_
    refine zr_iast (pc := 49) hV dX12_emit_49 rfl (by decide) rfl (by omega) (fun σ49 eσ49 => ?_)
    have hσ49 : zx_T σ49 := zx_ua19 eσ49 hσ40 (by omega)
    have hFσ49 : ∀ a i : Int, (¬ (a = 0 ∧ i = 54) ∧ ¬ (a = 0 ∧ i = 55) ∧ a ≠ 19 ∧ a ≠ 33) → σ49 a i = σ a i := fun a i h => by rw [eσ49, zq_up_ne (fun q => h.2.2.1 q.1)]; exact hFσ40 a i h
    have Bσ49 : zx_MB σ49 := zx_MB_fr (fun i => by rw [eσ49]; exact zq_up_ne (by omega)) (by rw [eσ49]; exact zq_up_ne (by omega)) (by rw [eσ49]; exact zq_up_ne (by omega)) Bσ40
    refine zr_aload_n (pc := 50) hV dX12_emit_50 rfl rfl ?_
    refine zr_getR (pc := 51) hV 32 19 dX12_emit_51 fX12_78 rfl rfl rfl (by decide) (zx_g32 hσ49) (by omega) ?_
    refine zr_iconst (pc := 54) hV 1 dX12_emit_54 rfl ?_
    refine zr_iload_n (pc := 55) hV dX12_emit_55 rfl rfl ?_
    refine zr_iast (pc := 56) hV dX12_emit_56 rfl (by decide) rfl (by omega) (fun σ56 eσ56 => ?_)
    have hσ56 : zx_T σ56 := zx_ua19 eσ56 hσ49 (by omega)
    have hFσ56 : ∀ a i : Int, (¬ (a = 0 ∧ i = 54) ∧ ¬ (a = 0 ∧ i = 55) ∧ a ≠ 19 ∧ a ≠ 33) → σ56 a i = σ a i := fun a i h => by rw [eσ56, zq_up_ne (fun q => h.2.2.1 q.1)]; exact hFσ49 a i h
    have Bσ56 : zx_MB σ56 := zx_MB_fr (fun i => by rw [eσ56]; exact zq_up_ne (by omega)) (by rw [eσ56]; exact zq_up_ne (by omega)) (by rw [eσ56]; exact zq_up_ne (by omega)) Bσ49
    refine zr_aload_n (pc := 57) hV dX12_emit_57 rfl rfl ?_
    refine zr_getR (pc := 58) hV 32 19 dX12_emit_58 fX12_78 rfl rfl rfl (by decide) (zx_g32 hσ56) (by omega) ?_
    refine zr_iconst (pc := 61) hV 2 dX12_emit_61 rfl ?_
    refine zr_iload (pc := 62) hV dX12_emit_62 rfl ?_
    refine zr_iast (pc := 64) hV dX12_emit_64 rfl (by decide) rfl (by omega) (fun σ64 eσ64 => ?_)
    have hσ64 : zx_T σ64 := zx_ua19 eσ64 hσ56 (by omega)
    have hFσ64 : ∀ a i : Int, (¬ (a = 0 ∧ i = 54) ∧ ¬ (a = 0 ∧ i = 55) ∧ a ≠ 19 ∧ a ≠ 33) → σ64 a i = σ a i := fun a i h => by rw [eσ64, zq_up_ne (fun q => h.2.2.1 q.1)]; exact hFσ56 a i h
    have Bσ64 : zx_MB σ64 := zx_MB_fr (fun i => by rw [eσ64]; exact zq_up_ne (by omega)) (by rw [eσ64]; exact zq_up_ne (by omega)) (by rw [eσ64]; exact zq_up_ne (by omega)) Bσ56
    refine zr_aload_n (pc := 65) hV dX12_emit_65 rfl rfl ?_
    refine zr_getR (pc := 66) hV 32 19 dX12_emit_66 fX12_78 rfl rfl rfl (by decide) (zx_g32 hσ64) (by omega) ?_
    refine zr_iconst (pc := 69) hV 3 dX12_emit_69 rfl ?_
    refine zr_iload (pc := 70) hV dX12_emit_70 rfl ?_
    refine zr_iast (pc := 72) hV dX12_emit_72 rfl (by decide) rfl (by omega) (fun σ72 eσ72 => ?_)
    have hσ72 : zx_T σ72 := zx_ua19 eσ72 hσ64 (by omega)
    have hFσ72 : ∀ a i : Int, (¬ (a = 0 ∧ i = 54) ∧ ¬ (a = 0 ∧ i = 55) ∧ a ≠ 19 ∧ a ≠ 33) → σ72 a i = σ a i := fun a i h => by rw [eσ72, zq_up_ne (fun q => h.2.2.1 q.1)]; exact hFσ64 a i h
    have Bσ72 : zx_MB σ72 := zx_MB_fr (fun i => by rw [eσ72]; exact zq_up_ne (by omega)) (by rw [eσ72]; exact zq_up_ne (by omega)) (by rw [eσ72]; exact zq_up_ne (by omega)) Bσ64
    refine zr_aload_n (pc := 73) hV dX12_emit_73 rfl rfl ?_
    refine zr_getR (pc := 74) hV 53 33 dX12_emit_74 fX12_123 rfl rfl rfl (by decide) (zx_g53 hσ72) (by omega) ?_
    refine zr_aload_n (pc := 77) hV dX12_emit_77 rfl rfl ?_
    refine zr_getI (pc := 78) hV 54 dX12_emit_78 fX12_446 rfl rfl rfl (by decide) ?_
    have t4 := zx_g54 hσ72
    have t5 : σ72 0 54 = σ64 0 54 := by rw [eσ72]; exact zq_up_ne (by omega)
    have t6 : σ64 0 54 = σ56 0 54 := by rw [eσ64]; exact zq_up_ne (by omega)
    have t7 : σ56 0 54 = σ49 0 54 := by rw [eσ56]; exact zq_up_ne (by omega)
    have t8 : σ49 0 54 = σ40 0 54 := by rw [eσ49]; exact zq_up_ne (by omega)
    have t9 : σ40 0 54 = σ 0 54 := by rw [eσ40]; exact zq_up_ne (by omega)
    refine zr_aload_n (pc := 81) hV dX12_emit_81 rfl rfl ?_
    refine zr_iload_n (pc := 82) hV dX12_emit_82 rfl rfl ?_
    refine zr_callVp (pc := 83) hV [ZI o] (st := [ZI (σ72 0 54), ZR 33]) (c_X12_bitsOf (σ := σ72) hσ72 o (by omega)) dX12_emit_83 mX12_393 rfl (by decide) (by decide) (Nat.le_of_ble_eq_true rfl) (Nat.le_refl _) (fun r83 hr83 pr83 => ?_)
    have t10 := zx_g2 hσ72
    have t11 : σ72 0 2 = σ64 0 2 := by rw [eσ72]; exact zq_up_ne (by omega)
    have t12 : σ64 0 2 = σ56 0 2 := by rw [eσ64]; exact zq_up_ne (by omega)
    have t13 : σ56 0 2 = σ49 0 2 := by rw [eσ56]; exact zq_up_ne (by omega)
    have t14 : σ49 0 2 = σ40 0 2 := by rw [eσ49]; exact zq_up_ne (by omega)
    have t15 : σ40 0 2 = σ 0 2 := by rw [eσ40]; exact zq_up_ne (by omega)
    refine zr_iast (pc := 86) hV dX12_emit_86 rfl (by decide) rfl (by omega) (fun σ86 eσ86 => ?_)
    have hσ86 : zx_T σ86 := zx_ua33 eσ86 hσ72 (by omega)
    have hFσ86 : ∀ a i : Int, (¬ (a = 0 ∧ i = 54) ∧ ¬ (a = 0 ∧ i = 55) ∧ a ≠ 19 ∧ a ≠ 33) → σ86 a i = σ a i := fun a i h => by rw [eσ86, zq_up_ne (fun q => h.2.2.2 q.1)]; exact hFσ72 a i h
    refine zr_aload_n (pc := 87) hV dX12_emit_87 rfl rfl ?_
    refine zr_dup (pc := 88) hV dX12_emit_88 (fun _ => rfl) ?_
    refine zr_getI (pc := 89) hV 54 dX12_emit_89 fX12_446 rfl rfl rfl (by decide) ?_
    have t16 := zx_g54 hσ86
    have t17 : σ86 0 54 = σ72 0 54 := by rw [eσ86]; exact zq_up_ne (by omega)
    have t18 : σ72 0 54 = σ64 0 54 := by rw [eσ72]; exact zq_up_ne (by omega)
    have t19 : σ64 0 54 = σ56 0 54 := by rw [eσ64]; exact zq_up_ne (by omega)
    have t20 : σ56 0 54 = σ49 0 54 := by rw [eσ56]; exact zq_up_ne (by omega)
    have t21 : σ49 0 54 = σ40 0 54 := by rw [eσ49]; exact zq_up_ne (by omega)
    have t22 : σ40 0 54 = σ 0 54 := by rw [eσ40]; exact zq_up_ne (by omega)
    refine zr_iconst (pc := 92) hV 1 dX12_emit_92 rfl ?_
    refine zr_iadd (pc := 93) hV dX12_emit_93 ?_
    refine zr_putI (pc := 94) hV 54 dX12_emit_94 fX12_446 rfl rfl rfl rfl (by decide) (fun σ94 eσ94 => ?_)
    have hσ94 : zx_T σ94 := zx_u54 eσ94 hσ86 (by omega)
    have hFσ94 : ∀ a i : Int, (¬ (a = 0 ∧ i = 54) ∧ ¬ (a = 0 ∧ i = 55) ∧ a ≠ 19 ∧ a ≠ 33) → σ94 a i = σ a i := fun a i h => by rw [eσ94, zq_up_ne h.1]; exact hFσ86 a i h
    have Bσ94 : zx_MB σ94 := zx_MB_emit Bσ72 eσ86 eσ94 (by omega) pr83.2.1
    have t23 := zx_g54 hσ94
    have t24 : σ94 0 54 = (σ86 0 54) + 1 := by rw [eσ94]; exact zq_up_same _ _ _ _
    exact zr_vret (pc := 97) hV dX12_emit_97 rfl rfl ⟨rfl, hσ94, hFσ94, (by omega), Bσ94⟩
  have J39 : V 39 [some (ZR 0), some (ZI o), some (ZI d), some (ZI s), some (ZI t), some (ZI i), none] [ZR 0] 41 σ := by
    show V 39 [some (ZR 0), some (ZI o), some (ZI d), some (ZI s), some (ZI t), some (ZI i), none] [ZR 0] 41 σ
    refine zr_iconst (pc := 39) hV 0 dX12_emit_39 rfl ?_
    exact J40 0 (by omega)
  refine zr_if_eq (pc := 13) hV 39 dX12_emit_13 (by decide) (by omega) (fun c25 => ?_) (fun c25 => ?_)
  · refine zr_sub (pc := 39) hV [some (ZR 0), some (ZI o), some (ZI d), some (ZI s), some (ZI t), some (ZI i), none] (⟨rfl, rfl, rfl, rfl, rfl, rfl, trivial⟩) ?_
    exact J39
  · show V 16 [some (ZR 0), some (ZI o), some (ZI d), some (ZI s), some (ZI t), some (ZI i), some (ZI (zq_shl 1 (σ 0 1)))] [ZR 0] 41 σ
    refine zr_iload_n (pc := 16) hV dX12_emit_16 rfl rfl ?_
    refine zr_iload (pc := 17) hV dX12_emit_17 rfl ?_
    refine zr_icmp_ge (pc := 19) hV 39 dX12_emit_19 (by decide) (by omega) (by omega) (fun c26 => ?_) (fun c26 => ?_)
    · refine zr_sub (pc := 39) hV [some (ZR 0), some (ZI o), some (ZI d), some (ZI s), some (ZI t), some (ZI i), none] (⟨rfl, rfl, rfl, rfl, rfl, rfl, trivial⟩) ?_
      exact J39
    · show V 22 [some (ZR 0), some (ZI o), some (ZI d), some (ZI s), some (ZI t), some (ZI i), some (ZI (zq_shl 1 (σ 0 1)))] [ZR 0] 41 σ
      refine zr_iload_n (pc := 22) hV dX12_emit_22 rfl rfl ?_
      refine zr_iload (pc := 23) hV dX12_emit_23 rfl ?_
      refine zr_icmp_ge (pc := 25) hV 39 dX12_emit_25 (by decide) (by omega) (by omega) (fun c27 => ?_) (fun c27 => ?_)
      · refine zr_sub (pc := 39) hV [some (ZR 0), some (ZI o), some (ZI d), some (ZI s), some (ZI t), some (ZI i), none] (⟨rfl, rfl, rfl, rfl, rfl, rfl, trivial⟩) ?_
        exact J39
      · show V 28 [some (ZR 0), some (ZI o), some (ZI d), some (ZI s), some (ZI t), some (ZI i), some (ZI (zq_shl 1 (σ 0 1)))] [ZR 0] 41 σ
        refine zr_iload (pc := 28) hV dX12_emit_28 rfl ?_
        refine zr_iload (pc := 30) hV dX12_emit_30 rfl ?_
        refine zr_icmp_ge (pc := 32) hV 39 dX12_emit_32 (by decide) (by omega) (by omega) (fun c28 => ?_) (fun c28 => ?_)
        · refine zr_sub (pc := 39) hV [some (ZR 0), some (ZI o), some (ZI d), some (ZI s), some (ZI t), some (ZI i), none] (⟨rfl, rfl, rfl, rfl, rfl, rfl, trivial⟩) ?_
          exact J39
        · show V 35 [some (ZR 0), some (ZI o), some (ZI d), some (ZI s), some (ZI t), some (ZI i), some (ZI (zq_shl 1 (σ 0 1)))] [ZR 0] 41 σ
          refine zr_iconst (pc := 35) hV 1 dX12_emit_35 rfl ?_
          refine zr_goto (pc := 36) hV 40 dX12_emit_36 (by decide) ?_
          refine zr_sub (pc := 40) hV [some (ZR 0), some (ZI o), some (ZI d), some (ZI s), some (ZI t), some (ZI i), none] (⟨rfl, rfl, rfl, rfl, rfl, rfl, trivial⟩) ?_
          exact J40 1 (by omega)
set_option maxHeartbeats 800000 in
theorem c_X12_addJob2 {σ : zq_S} (hσ : zx_T σ) (node to : Int) (q0 : 0 ≤ node ∧ node ≤ 39) (q1 : zq_in to) (q2 : σ 0 59 < 44) : zq_C zx_w yX12_addJob cX12_addJob 3 (none) 0 0 41 41 [ZR 0, ZI node, ZI to] σ (zq_pv (fun τ => zx_T τ ∧ (∀ a i : Int, (¬ (a = 0 ∧ i = 59) ∧ ¬ (a = 34 ∧ i = σ 0 59) ∧ ¬ (a = 35 ∧ i = σ 0 59) ∧ ¬ (a = 36 ∧ i = σ 0 59)) → τ a i = σ a i) ∧ (τ 0 59 = σ 0 59 + 1 ∧ τ 34 (σ 0 59) = node ∧ τ 36 (σ 0 59) = 0))) := by
  refine zq_C_of (by decide) (Nat.le_refl _) (Nat.le_of_ble_eq_true rfl) [some (ZR 0), some (ZI node), some (ZI to)] rfl (fun V hV => ?_)
  show V 0 [some (ZR 0), some (ZI node), some (ZI to)] [] 41 σ
  refine zr_aload_n (pc := 0) hV dX12_addJob_0 rfl rfl ?_
  refine zr_getR (pc := 1) hV 56 34 dX12_addJob_1 fX12_126 rfl rfl rfl (by decide) (zx_g56 hσ) (by omega) ?_
  refine zr_aload_n (pc := 4) hV dX12_addJob_4 rfl rfl ?_
  refine zr_getI (pc := 5) hV 59 dX12_addJob_5 fX12_449 rfl rfl rfl (by decide) ?_
  have t1 := zx_g59 hσ
  refine zr_iload_n (pc := 8) hV dX12_addJob_8 rfl rfl ?_
  refine zr_iast (pc := 9) hV dX12_addJob_9 rfl (by decide) rfl (by omega) (fun σ9 eσ9 => ?_)
  have hσ9 : zx_T σ9 := zx_ua34 eσ9 hσ (by omega)
  have hFσ9 : ∀ a i : Int, (¬ (a = 0 ∧ i = 59) ∧ ¬ (a = 34 ∧ i = σ 0 59) ∧ ¬ (a = 35 ∧ i = σ 0 59) ∧ ¬ (a = 36 ∧ i = σ 0 59)) → σ9 a i = σ a i := fun a i h => by rw [eσ9, zq_up_ne (fun q => h.2.1 ⟨q.1, by omega⟩)]
  refine zr_aload_n (pc := 10) hV dX12_addJob_10 rfl rfl ?_
  refine zr_getR (pc := 11) hV 57 35 dX12_addJob_11 fX12_129 rfl rfl rfl (by decide) (zx_g57 hσ9) (by omega) ?_
  refine zr_aload_n (pc := 14) hV dX12_addJob_14 rfl rfl ?_
  refine zr_getI (pc := 15) hV 59 dX12_addJob_15 fX12_449 rfl rfl rfl (by decide) ?_
  have t2 := zx_g59 hσ9
  have t3 : σ9 0 59 = σ 0 59 := by rw [eσ9]; exact zq_up_ne (by omega)
  refine zr_iload_n (pc := 18) hV dX12_addJob_18 rfl rfl ?_
  refine zr_iast (pc := 19) hV dX12_addJob_19 rfl (by decide) rfl (by omega) (fun σ19 eσ19 => ?_)
  have hσ19 : zx_T σ19 := zx_ua35 eσ19 hσ9 (by omega)
  have hFσ19 : ∀ a i : Int, (¬ (a = 0 ∧ i = 59) ∧ ¬ (a = 34 ∧ i = σ 0 59) ∧ ¬ (a = 35 ∧ i = σ 0 59) ∧ ¬ (a = 36 ∧ i = σ 0 59)) → σ19 a i = σ a i := fun a i h => by rw [eσ19, zq_up_ne (fun q => h.2.2.1 ⟨q.1, by omega⟩)]; exact hFσ9 a i h
  refine zr_aload_n (pc := 20) hV dX12_addJob_20 rfl rfl ?_
  refine zr_getR (pc := 21) hV 58 36 dX12_addJob_21 fX12_132 rfl rfl rfl (by decide) (zx_g58 hσ19) (by omega) ?_
  refine zr_aload_n (pc := 24) hV dX12_addJob_24 rfl rfl ?_
  refine zr_getI (pc := 25) hV 59 dX12_addJob_25 fX12_449 rfl rfl rfl (by decide) ?_
  have t4 := zx_g59 hσ19
  have t5 : σ19 0 59 = σ9 0 59 := by rw [eσ19]; exact zq_up_ne (by omega)
  have t6 : σ9 0 59 = σ 0 59 := by rw [eσ9]; exact zq_up_ne (by omega)
  refine zr_iconst (pc := 28) hV 0 dX12_addJob_28 rfl ?_
  refine zr_iast (pc := 29) hV dX12_addJob_29 rfl (by decide) rfl (by omega) (fun σ29 eσ29 => ?_)
  have hσ29 : zx_T σ29 := zx_ua36 eσ29 hσ19 (by omega)
  have hFσ29 : ∀ a i : Int, (¬ (a = 0 ∧ i = 59) ∧ ¬ (a = 34 ∧ i = σ 0 59) ∧ ¬ (a = 35 ∧ i = σ 0 59) ∧ ¬ (a = 36 ∧ i = σ 0 59)) → σ29 a i = σ a i := fun a i h => by rw [eσ29, zq_up_ne (fun q => h.2.2.2 ⟨q.1, by omega⟩)]; exact hFσ19 a i h
  refine zr_aload_n (pc := 30) hV dX12_addJob_30 rfl rfl ?_
  refine zr_dup (pc := 31) hV dX12_addJob_31 (fun _ => rfl) ?_
  refine zr_getI (pc := 32) hV 59 dX12_addJob_32 fX12_449 rfl rfl rfl (by decide) ?_
  have t7 := zx_g59 hσ29
  have t8 : σ29 0 59 = σ19 0 59 := by rw [eσ29]; exact zq_up_ne (by omega)
  have t9 : σ19 0 59 = σ9 0 59 := by rw [eσ19]; exact zq_up_ne (by omega)
  have t10 : σ9 0 59 = σ 0 59 := by rw [eσ9]; exact zq_up_ne (by omega)
  refine zr_iconst (pc := 35) hV 1 dX12_addJob_35 rfl ?_
  refine zr_iadd (pc := 36) hV dX12_addJob_36 ?_
  refine zr_putI (pc := 37) hV 59 dX12_addJob_37 fX12_449 rfl rfl rfl rfl (by decide) (fun σ37 eσ37 => ?_)
  have hσ37 : zx_T σ37 := zx_u59 eσ37 hσ29 (by omega)
  have hFσ37 : ∀ a i : Int, (¬ (a = 0 ∧ i = 59) ∧ ¬ (a = 34 ∧ i = σ 0 59) ∧ ¬ (a = 35 ∧ i = σ 0 59) ∧ ¬ (a = 36 ∧ i = σ 0 59)) → σ37 a i = σ a i := fun a i h => by rw [eσ37, zq_up_ne h.1]; exact hFσ29 a i h
  have a34 : σ37 34 (σ 0 59) = node := by rw [eσ37, zq_up_ne (by omega), eσ29, zq_up_ne (by omega), eσ19, zq_up_ne (by omega), eσ9, zq_up_same]
  have a36 : σ37 36 (σ 0 59) = 0 := by rw [eσ37, zq_up_ne (by omega), eσ29, show σ 0 59 = σ19 0 59 by omega, zq_up_same]
  have t11 := zx_g59 hσ37
  have t12 : σ37 0 59 = (σ29 0 59) + 1 := by rw [eσ37]; exact zq_up_same _ _ _ _
  exact zr_vret (pc := 40) hV dX12_addJob_40 rfl rfl ⟨rfl, hσ37, hFσ37, ⟨by omega, a34, a36⟩⟩
set_option maxHeartbeats 800000 in
theorem c_X12_doJob {σ : zq_S} (hσ : zx_T σ) (f : Int → Int) (p : Int) (q0 : zx_tree (σ 21) (σ 23) (σ 24) f (σ 0 37)) (q1 : zx_PR σ (zx_lm σ (σ 0 3)) (σ 0 37)) (q2 : zx_J σ f p) (q3 : 1 ≤ σ 0 59) (Bσ : zx_MB σ) : zq_C zx_w yX12_doJob cX12_doJob 13 (none) 5 116 41 41 [ZR 0] σ (zq_pv (fun τ => zx_T τ ∧ (∀ a i : Int, (¬ (a = 0 ∧ i = 54) ∧ ¬ (a = 0 ∧ i = 55) ∧ ¬ (a = 0 ∧ i = 59) ∧ a ≠ 19 ∧ a ≠ 33 ∧ a ≠ 34 ∧ a ≠ 35 ∧ a ≠ 36) → τ a i = σ a i) ∧ (True) ∧ zq_hid (∃ p2, zx_J τ f p2 ∧ zx_mu τ p2 < zx_mu σ p) ∧ zx_MB τ)) := by
  refine zq_C_of (by decide) (Nat.le_refl _) (Nat.le_of_ble_eq_true rfl) [some (ZR 0), none, none, none, none, none, none, none, none, none, none, none, none] rfl (fun V hV => ?_)
  have z37 := zx_g37 hσ
  have z59 := zx_g59 hσ
  obtain ⟨j1, j2, j3, j4, j5, j6, j7, j8⟩ := q2.1 (σ 0 59 - 1) (by omega) (by omega)
  have m1 := q2.2.2.2.1
  have m2 := q2.2.2.2.2
  have c12 := zx_P1h (q1 _ j1 j2) j4 j3
  have z3 := zx_g3 hσ
  show V 0 [some (ZR 0), none, none, none, none, none, none, none, none, none, none, none, none] [] 41 σ
  refine zr_aload_n (pc := 0) hV dX12_doJob_0 rfl rfl ?_
  refine zr_getI (pc := 1) hV 59 dX12_doJob_1 fX12_449 rfl rfl rfl (by decide) ?_
  have t1 := zx_g59 hσ
  refine zr_iconst (pc := 4) hV 1 dX12_doJob_4 rfl ?_
  refine zr_isub (pc := 5) hV dX12_doJob_5 ?_
  refine zr_istore_n (pc := 6) hV [some (ZR 0), some (ZI ((σ 0 59) - 1)), none, none, none, none, none, none, none, none, none, none, none] dX12_doJob_6 rfl (by decide) rfl rfl ?_
  refine zr_aload_n (pc := 7) hV dX12_doJob_7 rfl rfl ?_
  refine zr_getR (pc := 8) hV 56 34 dX12_doJob_8 fX12_126 rfl rfl rfl (by decide) (zx_g56 hσ) (by omega) ?_
  refine zr_iload_n (pc := 11) hV dX12_doJob_11 rfl rfl ?_
  refine zr_iald (pc := 12) hV dX12_doJob_12 rfl (by decide) rfl (by omega) ?_
  have t2 := zx_ga34 hσ ((σ 0 59) - 1)
  refine zr_istore_n (pc := 13) hV [some (ZR 0), some (ZI ((σ 0 59) - 1)), some (ZI (σ 34 ((σ 0 59) - 1))), none, none, none, none, none, none, none, none, none, none] dX12_doJob_13 rfl (by decide) rfl rfl ?_
  refine zr_aload_n (pc := 14) hV dX12_doJob_14 rfl rfl ?_
  refine zr_getR (pc := 15) hV 57 35 dX12_doJob_15 fX12_129 rfl rfl rfl (by decide) (zx_g57 hσ) (by omega) ?_
  refine zr_iload_n (pc := 18) hV dX12_doJob_18 rfl rfl ?_
  refine zr_iald (pc := 19) hV dX12_doJob_19 rfl (by decide) rfl (by omega) ?_
  have t3 := zx_ga35 hσ ((σ 0 59) - 1)
  refine zr_istore_n (pc := 20) hV [some (ZR 0), some (ZI ((σ 0 59) - 1)), some (ZI (σ 34 ((σ 0 59) - 1))), some (ZI (σ 35 ((σ 0 59) - 1))), none, none, none, none, none, none, none, none, none] dX12_doJob_20 rfl (by decide) rfl rfl ?_
  refine zr_aload_n (pc := 21) hV dX12_doJob_21 rfl rfl ?_
  refine zr_getR (pc := 22) hV 52 32 dX12_doJob_22 fX12_120 rfl rfl rfl (by decide) (zx_g52 hσ) (by omega) ?_
  refine zr_iload_n (pc := 25) hV dX12_doJob_25 rfl rfl ?_
  refine zr_iald (pc := 26) hV dX12_doJob_26 rfl (by decide) rfl (by omega) ?_
  have t4 := zx_ga32 hσ (σ 34 ((σ 0 59) - 1))
  refine zr_istore (pc := 27) hV [some (ZR 0), some (ZI ((σ 0 59) - 1)), some (ZI (σ 34 ((σ 0 59) - 1))), some (ZI (σ 35 ((σ 0 59) - 1))), some (ZI (σ 32 (σ 34 ((σ 0 59) - 1)))), none, none, none, none, none, none, none, none] dX12_doJob_27 (by decide) rfl rfl ?_
  refine zr_aload_n (pc := 29) hV dX12_doJob_29 rfl rfl ?_
  refine zr_getR (pc := 30) hV 38 21 dX12_doJob_30 fX12_87 rfl rfl rfl (by decide) (zx_g38 hσ) (by omega) ?_
  refine zr_iload_n (pc := 33) hV dX12_doJob_33 rfl rfl ?_
  refine zr_iald (pc := 34) hV dX12_doJob_34 rfl (by decide) rfl (by omega) ?_
  have t5 := zx_ga21 hσ (σ 34 ((σ 0 59) - 1))
  refine zr_iconst (pc := 35) hV 1 dX12_doJob_35 rfl ?_
  refine zr_icmp_ne (pc := 36) hV 65 dX12_doJob_36 (by decide) (by omega) ⟨by decide, by decide⟩ (fun c6 => ?_) (fun c6 => ?_)
  · show V 65 [some (ZR 0), some (ZI ((σ 0 59) - 1)), some (ZI (σ 34 ((σ 0 59) - 1))), some (ZI (σ 35 ((σ 0 59) - 1))), some (ZI (σ 32 (σ 34 ((σ 0 59) - 1)))), none, none, none, none, none, none, none, none] [] 41 σ
    have k2 : σ 21 (σ 34 (σ 0 59 - 1)) = 2 := by have := zx_ga21 hσ (σ 34 (σ 0 59 - 1)); omega
    obtain ⟨a1, a2, a3, a4, a5⟩ := (q0 _ j1 j2).2.2.1 k2
    obtain ⟨d1, d2, d3, d4⟩ := zx_P1k (q1 _ j1 j2) j4 j3 (by omega)
    refine zr_aload_n (pc := 65) hV dX12_doJob_65 rfl rfl ?_
    refine zr_iload (pc := 66) hV dX12_doJob_66 rfl ?_
    refine zr_callVp (pc := 68) hV [ZI (σ 32 (σ 34 ((σ 0 59) - 1)))] (st := []) (c_X12_formOf (σ := σ) hσ (σ 32 (σ 34 ((σ 0 59) - 1))) (by omega)) dX12_doJob_68 mX12_428 rfl (by decide) (by decide) (Nat.le_of_ble_eq_true rfl) (Nat.le_refl _) (fun r68 hr68 pr68 => ?_)
    refine zr_istore (pc := 71) hV [some (ZR 0), some (ZI ((σ 0 59) - 1)), some (ZI (σ 34 ((σ 0 59) - 1))), some (ZI (σ 35 ((σ 0 59) - 1))), some (ZI (σ 32 (σ 34 ((σ 0 59) - 1)))), some (ZI r68), none, none, none, none, none, none, none] dX12_doJob_71 (by decide) rfl rfl ?_
    refine zr_aload_n (pc := 73) hV dX12_doJob_73 rfl rfl ?_
    refine zr_getR (pc := 74) hV 40 23 dX12_doJob_74 fX12_93 rfl rfl rfl (by decide) (zx_g40 hσ) (by omega) ?_
    refine zr_iload_n (pc := 77) hV dX12_doJob_77 rfl rfl ?_
    refine zr_iald (pc := 78) hV dX12_doJob_78 rfl (by decide) rfl (by omega) ?_
    have t7 := zx_ga23 hσ (σ 34 ((σ 0 59) - 1))
    refine zr_istore (pc := 79) hV [some (ZR 0), some (ZI ((σ 0 59) - 1)), some (ZI (σ 34 ((σ 0 59) - 1))), some (ZI (σ 35 ((σ 0 59) - 1))), some (ZI (σ 32 (σ 34 ((σ 0 59) - 1)))), some (ZI r68), some (ZI (σ 23 (σ 34 ((σ 0 59) - 1)))), none, none, none, none, none, none] dX12_doJob_79 (by decide) rfl rfl ?_
    refine zr_aload_n (pc := 81) hV dX12_doJob_81 rfl rfl ?_
    refine zr_getR (pc := 82) hV 41 24 dX12_doJob_82 fX12_96 rfl rfl rfl (by decide) (zx_g41 hσ) (by omega) ?_
    refine zr_iload_n (pc := 85) hV dX12_doJob_85 rfl rfl ?_
    refine zr_iald (pc := 86) hV dX12_doJob_86 rfl (by decide) rfl (by omega) ?_
    have t8 := zx_ga24 hσ (σ 34 ((σ 0 59) - 1))
    refine zr_istore (pc := 87) hV [some (ZR 0), some (ZI ((σ 0 59) - 1)), some (ZI (σ 34 ((σ 0 59) - 1))), some (ZI (σ 35 ((σ 0 59) - 1))), some (ZI (σ 32 (σ 34 ((σ 0 59) - 1)))), some (ZI r68), some (ZI (σ 23 (σ 34 ((σ 0 59) - 1)))), some (ZI (σ 24 (σ 34 ((σ 0 59) - 1)))), none, none, none, none, none] dX12_doJob_87 (by decide) rfl rfl ?_
    refine zr_aload_n (pc := 89) hV dX12_doJob_89 rfl rfl ?_
    refine zr_getR (pc := 90) hV 38 21 dX12_doJob_90 fX12_87 rfl rfl rfl (by decide) (zx_g38 hσ) (by omega) ?_
    refine zr_iload (pc := 93) hV dX12_doJob_93 rfl ?_
    refine zr_iald (pc := 95) hV dX12_doJob_95 rfl (by decide) rfl (by omega) ?_
    have t9 := zx_ga21 hσ (σ 23 (σ 34 ((σ 0 59) - 1)))
    have J110 : ∀ (v0_110 : Int), (0 ≤ v0_110 ∧ v0_110 ≤ 1) → V 110 [some (ZR 0), some (ZI ((σ 0 59) - 1)), none, some (ZI (σ 35 ((σ 0 59) - 1))), some (ZI (σ 32 (σ 34 ((σ 0 59) - 1)))), some (ZI r68), some (ZI (σ 23 (σ 34 ((σ 0 59) - 1)))), some (ZI (σ 24 (σ 34 ((σ 0 59) - 1)))), none, none, none, none, none] [ZI v0_110] 41 σ := by
      intro v0_110 hv0_110
      show V 110 [some (ZR 0), some (ZI ((σ 0 59) - 1)), none, some (ZI (σ 35 ((σ 0 59) - 1))), some (ZI (σ 32 (σ 34 ((σ 0 59) - 1)))), some (ZI r68), some (ZI (σ 23 (σ 34 ((σ 0 59) - 1)))), some (ZI (σ 24 (σ 34 ((σ 0 59) - 1)))), none, none, none, none, none] [ZI v0_110] 41 σ
      refine zr_istore (pc := 110) hV [some (ZR 0), some (ZI ((σ 0 59) - 1)), none, some (ZI (σ 35 ((σ 0 59) - 1))), some (ZI (σ 32 (σ 34 ((σ 0 59) - 1)))), some (ZI r68), some (ZI (σ 23 (σ 34 ((σ 0 59) - 1)))), some (ZI (σ 24 (σ 34 ((σ 0 59) - 1)))), some (ZI v0_110), none, none, none, none] dX12_doJob_110 (by decide) rfl rfl ?_
      refine zr_aload_n (pc := 112) hV dX12_doJob_112 rfl rfl ?_
      refine zr_getR (pc := 113) hV 38 21 dX12_doJob_113 fX12_87 rfl rfl rfl (by decide) (zx_g38 hσ) (by omega) ?_
      refine zr_iload (pc := 116) hV dX12_doJob_116 rfl ?_
      refine zr_iald (pc := 118) hV dX12_doJob_118 rfl (by decide) rfl (by omega) ?_
      have t10 := zx_ga21 hσ (σ 24 (σ 34 ((σ 0 59) - 1)))
      have J127 : ∀ (v0_127 : Int), (0 ≤ v0_127 ∧ v0_127 ≤ 1) → (zq_hid ((v0_127 = 1 ∧ σ 21 (σ 24 (σ 34 ((σ 0 59) - 1))) = 0) ∨ (v0_127 = 0 ∧ σ 21 (σ 24 (σ 34 ((σ 0 59) - 1))) ≠ 0))) → V 127 [some (ZR 0), some (ZI ((σ 0 59) - 1)), none, some (ZI (σ 35 ((σ 0 59) - 1))), some (ZI (σ 32 (σ 34 ((σ 0 59) - 1)))), some (ZI r68), some (ZI (σ 23 (σ 34 ((σ 0 59) - 1)))), some (ZI (σ 24 (σ 34 ((σ 0 59) - 1)))), some (ZI v0_110), none, none, none, none] [ZI v0_127] 41 σ := by
        intro v0_127 hv0_127 hi127_0
        show V 127 [some (ZR 0), some (ZI ((σ 0 59) - 1)), none, some (ZI (σ 35 ((σ 0 59) - 1))), some (ZI (σ 32 (σ 34 ((σ 0 59) - 1)))), some (ZI r68), some (ZI (σ 23 (σ 34 ((σ 0 59) - 1)))), some (ZI (σ 24 (σ 34 ((σ 0 59) - 1)))), some (ZI v0_110), none, none, none, none] [ZI v0_127] 41 σ
        refine zr_istore (pc := 127) hV [some (ZR 0), some (ZI ((σ 0 59) - 1)), none, some (ZI (σ 35 ((σ 0 59) - 1))), some (ZI (σ 32 (σ 34 ((σ 0 59) - 1)))), some (ZI r68), some (ZI (σ 23 (σ 34 ((σ 0 59) - 1)))), some (ZI (σ 24 (σ 34 ((σ 0 59) - 1)))), some (ZI v0_110), some (ZI v0_127), none, none, none] dX12_doJob_127 (by decide) rfl rfl ?_
        refine zr_iload (pc := 129) hV dX12_doJob_129 rfl ?_
        have J141 : ∀ (v0_141 : Int), ((-2147483648) ≤ v0_141 ∧ v0_141 ≤ 2147483647) → V 141 [some (ZR 0), some (ZI ((σ 0 59) - 1)), none, some (ZI (σ 35 ((σ 0 59) - 1))), some (ZI (σ 32 (σ 34 ((σ 0 59) - 1)))), some (ZI r68), some (ZI (σ 23 (σ 34 ((σ 0 59) - 1)))), some (ZI (σ 24 (σ 34 ((σ 0 59) - 1)))), some (ZI v0_110), some (ZI v0_127), none, none, none] [ZI v0_141] 41 σ := by
          intro v0_141 hv0_141
          show V 141 [some (ZR 0), some (ZI ((σ 0 59) - 1)), none, some (ZI (σ 35 ((σ 0 59) - 1))), some (ZI (σ 32 (σ 34 ((σ 0 59) - 1)))), some (ZI r68), some (ZI (σ 23 (σ 34 ((σ 0 59) - 1)))), some (ZI (σ 24 (σ 34 ((σ 0 59) - 1)))), some (ZI v0_110), some (ZI v0_127), none, none, none] [ZI v0_141] 41 σ
          refine zr_istore (pc := 141) hV [some (ZR 0), some (ZI ((σ 0 59) - 1)), none, some (ZI (σ 35 ((σ 0 59) - 1))), some (ZI (σ 32 (σ 34 ((σ 0 59) - 1)))), some (ZI r68), some (ZI (σ 23 (σ 34 ((σ 0 59) - 1)))), some (ZI (σ 24 (σ 34 ((σ 0 59) - 1)))), some (ZI v0_110), some (ZI v0_127), some (ZI v0_141), none, none] dX12_doJob_141 (by decide) rfl rfl ?_
          refine zr_aload_n (pc := 143) hV dX12_doJob_143 rfl rfl ?_
          refine zr_getR (pc := 144) hV 58 36 dX12_doJob_144 fX12_132 rfl rfl rfl (by decide) (zx_g58 hσ) (by omega) ?_
          refine zr_iload_n (pc := 147) hV dX12_doJob_147 rfl rfl ?_
          refine zr_dup2 (pc := 148) hV dX12_doJob_148 (fun _ => rfl) (fun _ => rfl) ?_
          refine zr_iald (pc := 149) hV dX12_doJob_149 rfl (by decide) rfl (by omega) ?_
          have t11 := zx_ga36 hσ ((σ 0 59) - 1)
          refine zr_iconst (pc := 150) hV 1 dX12_doJob_150 rfl ?_
          refine zr_iadd (pc := 151) hV dX12_doJob_151 ?_
          refine zr_iast (pc := 152) hV dX12_doJob_152 rfl (by decide) rfl (by omega) (fun σ152 eσ152 => ?_)
          have hσ152 : zx_T σ152 := zx_ua36 eσ152 hσ (by omega)
          have hFσ152 : ∀ a i : Int, (¬ (a = 0 ∧ i = 54) ∧ ¬ (a = 0 ∧ i = 55) ∧ ¬ (a = 0 ∧ i = 59) ∧ a ≠ 19 ∧ a ≠ 33 ∧ a ≠ 34 ∧ a ≠ 35 ∧ a ≠ 36) → σ152 a i = σ a i := fun a i h => by rw [eσ152, zq_up_ne (fun q => h.2.2.2.2.2.2.2 q.1)]
          have Bσ152 : zx_MB σ152 := zx_MB_fr (fun i => by rw [eσ152]; exact zq_up_ne (by omega)) (by rw [eσ152]; exact zq_up_ne (by omega)) (by rw [eσ152]; exact zq_up_ne (by omega)) Bσ
          have w59 : σ152 0 59 = σ 0 59 := by rw [eσ152, zq_up_ne (by omega)]
          have w54 : σ152 0 54 = σ 0 54 := by rw [eσ152, zq_up_ne (by omega)]
          refine zr_aload_n (pc := 153) hV dX12_doJob_153 rfl rfl ?_
          refine zr_getR (pc := 154) hV 58 36 dX12_doJob_154 fX12_132 rfl rfl rfl (by decide) (zx_g58 hσ152) (by omega) ?_
          refine zr_iload_n (pc := 157) hV dX12_doJob_157 rfl rfl ?_
          refine zr_iald (pc := 158) hV dX12_doJob_158 rfl (by decide) rfl (by omega) ?_
          have t12 := zx_ga36 hσ152 ((σ 0 59) - 1)
          have t13 : σ152 36 ((σ 0 59) - 1) = (σ 36 ((σ 0 59) - 1)) + 1 := by rw [eσ152]; exact zq_up_same _ _ _ _
          refine zr_iconst (pc := 159) hV 1 dX12_doJob_159 rfl ?_
          refine zr_icmp_ne (pc := 160) hV 210 dX12_doJob_160 (by decide) (by omega) ⟨by decide, by decide⟩ (fun c14 => ?_) (fun c14 => ?_)
          · show V 210 [some (ZR 0), some (ZI ((σ 0 59) - 1)), none, some (ZI (σ 35 ((σ 0 59) - 1))), some (ZI (σ 32 (σ 34 ((σ 0 59) - 1)))), some (ZI r68), some (ZI (σ 23 (σ 34 ((σ 0 59) - 1)))), some (ZI (σ 24 (σ 34 ((σ 0 59) - 1)))), some (ZI v0_110), some (ZI v0_127), some (ZI v0_141), none, none] [] 41 σ152
            refine zr_aload_n (pc := 210) hV dX12_doJob_210 rfl rfl ?_
            refine zr_getR (pc := 211) hV 58 36 dX12_doJob_211 fX12_132 rfl rfl rfl (by decide) (zx_g58 hσ152) (by omega) ?_
            refine zr_iload_n (pc := 214) hV dX12_doJob_214 rfl rfl ?_
            refine zr_iald (pc := 215) hV dX12_doJob_215 rfl (by decide) rfl (by omega) ?_
            have t15 := zx_ga36 hσ152 ((σ 0 59) - 1)
            have t16 : σ152 36 ((σ 0 59) - 1) = (σ 36 ((σ 0 59) - 1)) + 1 := by rw [eσ152]; exact zq_up_same _ _ _ _
            refine zr_iconst (pc := 216) hV 2 dX12_doJob_216 rfl ?_
            refine zr_icmp_ne (pc := 217) hV 248 dX12_doJob_217 (by decide) (by omega) ⟨by decide, by decide⟩ (fun c17 => ?_) (fun c17 => ?_)
            · show V 248 [some (ZR 0), some (ZI ((σ 0 59) - 1)), none, some (ZI (σ 35 ((σ 0 59) - 1))), some (ZI (σ 32 (σ 34 ((σ 0 59) - 1)))), some (ZI r68), some (ZI (σ 23 (σ 34 ((σ 0 59) - 1)))), some (ZI (σ 24 (σ 34 ((σ 0 59) - 1)))), some (ZI v0_110), some (ZI v0_127), some (ZI v0_141), none, none] [] 41 σ152
              refine zr_iload (pc := 248) hV dX12_doJob_248 rfl ?_
              have J264 : ∀ (v0_264 : Int), ((-2147483648) ≤ v0_264 ∧ v0_264 ≤ 2147483647) → V 264 [some (ZR 0), none, none, some (ZI (σ 35 ((σ 0 59) - 1))), some (ZI (σ 32 (σ 34 ((σ 0 59) - 1)))), some (ZI r68), none, some (ZI (σ 24 (σ 34 ((σ 0 59) - 1)))), none, some (ZI v0_127), some (ZI v0_141), none, none] [ZI v0_264] 41 σ152 := by
                intro v0_264 hv0_264
                show V 264 [some (ZR 0), none, none, some (ZI (σ 35 ((σ 0 59) - 1))), some (ZI (σ 32 (σ 34 ((σ 0 59) - 1)))), some (ZI r68), none, some (ZI (σ 24 (σ 34 ((σ 0 59) - 1)))), none, some (ZI v0_127), some (ZI v0_141), none, none] [ZI v0_264] 41 σ152
                refine zr_istore (pc := 264) hV [some (ZR 0), none, none, some (ZI (σ 35 ((σ 0 59) - 1))), some (ZI (σ 32 (σ 34 ((σ 0 59) - 1)))), some (ZI r68), none, some (ZI (σ 24 (σ 34 ((σ 0 59) - 1)))), none, some (ZI v0_127), some (ZI v0_141), some (ZI v0_264), none] dX12_doJob_264 (by decide) rfl rfl ?_
                refine zr_iload (pc := 266) hV dX12_doJob_266 rfl ?_
                have J283 : ∀ (v0_283 : Int), ((-2147483648) ≤ v0_283 ∧ v0_283 ≤ 2147483647) → V 283 [some (ZR 0), none, none, some (ZI (σ 35 ((σ 0 59) - 1))), some (ZI (σ 32 (σ 34 ((σ 0 59) - 1)))), some (ZI r68), none, some (ZI (σ 24 (σ 34 ((σ 0 59) - 1)))), none, none, none, some (ZI v0_264), none] [ZI v0_283] 41 σ152 := by
                  intro v0_283 hv0_283
                  show V 283 [some (ZR 0), none, none, some (ZI (σ 35 ((σ 0 59) - 1))), some (ZI (σ 32 (σ 34 ((σ 0 59) - 1)))), some (ZI r68), none, some (ZI (σ 24 (σ 34 ((σ 0 59) - 1)))), none, none, none, some (ZI v0_264), none] [ZI v0_283] 41 σ152
                  refine zr_istore (pc := 283) hV [some (ZR 0), none, none, some (ZI (σ 35 ((σ 0 59) - 1))), some (ZI (σ 32 (σ 34 ((σ 0 59) - 1)))), some (ZI r68), none, some (ZI (σ 24 (σ 34 ((σ 0 59) - 1)))), none, none, none, some (ZI v0_264), some (ZI v0_283)] dX12_doJob_283 (by decide) rfl rfl ?_
                  refine zr_aload_n (pc := 285) hV dX12_doJob_285 rfl rfl ?_
                  refine zr_dup (pc := 286) hV dX12_doJob_286 (fun _ => rfl) ?_
                  refine zr_getI (pc := 287) hV 59 dX12_doJob_287 fX12_449 rfl rfl rfl (by decide) ?_
                  have t18 := zx_g59 hσ152
                  have t19 : σ152 0 59 = σ 0 59 := by rw [eσ152]; exact zq_up_ne (by omega)
                  refine zr_iconst (pc := 290) hV 1 dX12_doJob_290 rfl ?_
                  refine zr_isub (pc := 291) hV dX12_doJob_291 ?_
                  refine zr_putI (pc := 292) hV 59 dX12_doJob_292 fX12_449 rfl rfl rfl rfl (by decide) (fun σ292 eσ292 => ?_)
                  have hσ292 : zx_T σ292 := zx_u59 eσ292 hσ152 (by omega)
                  have hFσ292 : ∀ a i : Int, (¬ (a = 0 ∧ i = 54) ∧ ¬ (a = 0 ∧ i = 55) ∧ ¬ (a = 0 ∧ i = 59) ∧ a ≠ 19 ∧ a ≠ 33 ∧ a ≠ 34 ∧ a ≠ 35 ∧ a ≠ 36) → σ292 a i = σ a i := fun a i h => by rw [eσ292, zq_up_ne h.2.2.1]; exact hFσ152 a i h
                  have Bσ292 : zx_MB σ292 := zx_MB_fr (fun i => by rw [eσ292]; exact zq_up_ne (by omega)) (by rw [eσ292]; exact zq_up_ne (by omega)) (by rw [eσ292]; exact zq_up_ne (by omega)) Bσ152
                  refine zr_iload (pc := 295) hV dX12_doJob_295 rfl ?_
                  refine zr_iconst (pc := 297) hV 3 dX12_doJob_297 rfl ?_
                  refine zr_icmp_ne (pc := 298) hV 316 dX12_doJob_298 (by decide) (by omega) ⟨by decide, by decide⟩ (fun c20 => ?_) (fun c20 => ?_)
                  · show V 316 [some (ZR 0), none, none, some (ZI (σ 35 ((σ 0 59) - 1))), some (ZI (σ 32 (σ 34 ((σ 0 59) - 1)))), some (ZI r68), none, some (ZI (σ 24 (σ 34 ((σ 0 59) - 1)))), none, none, none, some (ZI v0_264), some (ZI v0_283)] [] 41 σ292
                    refine zr_iload (pc := 316) hV dX12_doJob_316 rfl ?_
                    refine zr_iconst (pc := 318) hV 4 dX12_doJob_318 rfl ?_
                    refine zr_icmp_ne (pc := 319) hV 342 dX12_doJob_319 (by decide) (by omega) ⟨by decide, by decide⟩ (fun c21 => ?_) (fun c21 => ?_)
                    · show V 342 [some (ZR 0), none, none, some (ZI (σ 35 ((σ 0 59) - 1))), some (ZI (σ 32 (σ 34 ((σ 0 59) - 1)))), some (ZI r68), none, some (ZI (σ 24 (σ 34 ((σ 0 59) - 1)))), none, none, none, some (ZI v0_264), some (ZI v0_283)] [] 41 σ292
                      refine zr_iload (pc := 342) hV dX12_doJob_342 rfl ?_
                      refine zr_iconst (pc := 344) hV 5 dX12_doJob_344 rfl ?_
                      refine zr_icmp_ne (pc := 345) hV 362 dX12_doJob_345 (by decide) (by omega) ⟨by decide, by decide⟩ (fun c22 => ?_) (fun c22 => ?_)
                      · show V 362 [some (ZR 0), none, none, some (ZI (σ 35 ((σ 0 59) - 1))), some (ZI (σ 32 (σ 34 ((σ 0 59) - 1)))), some (ZI r68), none, some (ZI (σ 24 (σ 34 ((σ 0 59) - 1)))), none, none, none, some (ZI v0_264), some (ZI v0_283)] [] 41 σ292
                        refine zr_aload_n (pc := 362) hV dX12_doJob_362 rfl rfl ?_
                        refine zr_iload (pc := 363) hV dX12_doJob_363 rfl ?_
                        refine zr_iload_n (pc := 365) hV dX12_doJob_365 rfl rfl ?_
                        refine zr_iconst (pc := 366) hV 0 dX12_doJob_366 rfl ?_
                        refine zr_iconst (pc := 367) hV 0 dX12_doJob_367 rfl ?_
                        refine zr_aload_n (pc := 368) hV dX12_doJob_368 rfl rfl ?_
                        refine zr_getR (pc := 369) hV 39 22 dX12_doJob_369 fX12_90 rfl rfl rfl (by decide) (zx_g39 hσ292) (by omega) ?_
                        refine zr_iload (pc := 372) hV dX12_doJob_372 rfl ?_
                        refine zr_iald (pc := 374) hV dX12_doJob_374 rfl (by decide) rfl (by omega) ?_
                        have t23 := zx_ga22 hσ292 (σ 24 (σ 34 ((σ 0 59) - 1)))
                        have t24 : σ292 22 (σ 24 (σ 34 ((σ 0 59) - 1))) = σ152 22 (σ 24 (σ 34 ((σ 0 59) - 1))) := by rw [eσ292]; exact zq_up_ne (by omega)
                        have t25 : σ152 22 (σ 24 (σ 34 ((σ 0 59) - 1))) = σ 22 (σ 24 (σ 34 ((σ 0 59) - 1))) := by rw [eσ152]; exact zq_up_ne (by omega)
                        have t26 := zx_g54 hσ292
                        have t27 : σ292 0 54 = σ152 0 54 := by rw [eσ292]; exact zq_up_ne (by omega)
                        have t28 : σ152 0 54 = σ 0 54 := by rw [eσ152]; exact zq_up_ne (by omega)
                        refine zr_callVv (pc := 375) hV [ZI (σ 32 (σ 34 ((σ 0 59) - 1))), ZI (σ 35 ((σ 0 59) - 1)), ZI 0, ZI 0, ZI (σ292 22 (σ 24 (σ 34 ((σ 0 59) - 1))))] (st := []) (c_X12_emit2 (σ := σ292) hσ292 (σ 32 (σ 34 ((σ 0 59) - 1))) (σ 35 ((σ 0 59) - 1)) 0 0 (σ292 22 (σ 24 (σ 34 ((σ 0 59) - 1)))) (by omega) (by omega) (by omega) (by omega) (by omega) (by omega) Bσ292) dX12_doJob_375 mX12_452 rfl (by decide) (by decide) (Nat.le_of_ble_eq_true rfl) (Nat.le_refl _) (fun σ375 pσ375 => ?_)
                        obtain ⟨hσ375, hfσ375, pσ375, Bσ375⟩ := pσ375
                        have hFσ375 : ∀ a i : Int, (¬ (a = 0 ∧ i = 54) ∧ ¬ (a = 0 ∧ i = 55) ∧ ¬ (a = 0 ∧ i = 59) ∧ a ≠ 19 ∧ a ≠ 33 ∧ a ≠ 34 ∧ a ≠ 35 ∧ a ≠ 36) → σ375 a i = σ a i := fun a i h => (hfσ375 a i ⟨h.1, h.2.1, h.2.2.2.1, h.2.2.2.2.1⟩).trans (hFσ292 a i h)
                        have t29 := zx_g54 hσ292
                        have t30 : σ292 0 54 = σ152 0 54 := by rw [eσ292]; exact zq_up_ne (by omega)
                        have t31 : σ152 0 54 = σ 0 54 := by rw [eσ152]; exact zq_up_ne (by omega)
                        have t32 := zx_g54 hσ375
                        show V 378 [some (ZR 0), none, none, some (ZI (σ 35 ((σ 0 59) - 1))), some (ZI (σ 32 (σ 34 ((σ 0 59) - 1)))), some (ZI r68), none, some (ZI (σ 24 (σ 34 ((σ 0 59) - 1)))), none, none, none, some (ZI v0_264), some (ZI v0_283)] [] 41 σ375
                        exact zr_vret (pc := 378) hV dX12_doJob_378 rfl rfl ⟨rfl, hσ375, hFσ375, trivial, (show ∃ p2, zx_J σ375 f p2 ∧ zx_mu σ375 p2 < zx_mu σ p from (zx_J_pop ⟨fun i => hFσ375 21 i (by omega), fun i => hFσ375 23 i (by omega), fun i => hFσ375 24 i (by omega), fun i => hFσ375 31 i (by omega), hFσ375 0 37 (by omega)⟩ q0 q2 q3 ((hfσ375 0 59 (by omega)).trans (by rw [eσ292, zq_up_same, w59])) (fun i => (hfσ375 34 i (by omega)).trans (by rw [eσ292, zq_up_ne (by omega), eσ152, zq_up_ne (by omega)])) (fun i h => (hfσ375 36 i (by omega)).trans (by rw [eσ292, zq_up_ne (by omega), eσ152, zq_up_ne (by omega)])) (by have := zx_J_p2 q2 q3 (by omega); omega) (by rw [pσ375, eσ292, zq_up_ne (by omega), w54]; omega))), Bσ375⟩
                      · show V 348 [some (ZR 0), none, none, some (ZI (σ 35 ((σ 0 59) - 1))), some (ZI (σ 32 (σ 34 ((σ 0 59) - 1)))), some (ZI r68), none, some (ZI (σ 24 (σ 34 ((σ 0 59) - 1)))), none, none, none, some (ZI v0_264), some (ZI v0_283)] [] 41 σ292
                        refine zr_aload_n (pc := 348) hV dX12_doJob_348 rfl rfl ?_
                        refine zr_iload (pc := 349) hV dX12_doJob_349 rfl ?_
                        refine zr_iload_n (pc := 351) hV dX12_doJob_351 rfl rfl ?_
                        refine zr_iload (pc := 352) hV dX12_doJob_352 rfl ?_
                        refine zr_iconst (pc := 354) hV 0 dX12_doJob_354 rfl ?_
                        refine zr_iconst (pc := 355) hV 0 dX12_doJob_355 rfl ?_
                        have t33 := zx_g54 hσ292
                        have t34 : σ292 0 54 = σ152 0 54 := by rw [eσ292]; exact zq_up_ne (by omega)
                        have t35 : σ152 0 54 = σ 0 54 := by rw [eσ152]; exact zq_up_ne (by omega)
                        refine zr_callVv (pc := 356) hV [ZI (σ 32 (σ 34 ((σ 0 59) - 1))), ZI (σ 35 ((σ 0 59) - 1)), ZI v0_283, ZI 0, ZI 0] (st := []) (c_X12_emit2 (σ := σ292) hσ292 (σ 32 (σ 34 ((σ 0 59) - 1))) (σ 35 ((σ 0 59) - 1)) v0_283 0 0 (by omega) (by omega) (by omega) (by omega) (by omega) (by omega) Bσ292) dX12_doJob_356 mX12_452 rfl (by decide) (by decide) (Nat.le_of_ble_eq_true rfl) (Nat.le_refl _) (fun σ356 pσ356 => ?_)
                        obtain ⟨hσ356, hfσ356, pσ356, Bσ356⟩ := pσ356
                        have hFσ356 : ∀ a i : Int, (¬ (a = 0 ∧ i = 54) ∧ ¬ (a = 0 ∧ i = 55) ∧ ¬ (a = 0 ∧ i = 59) ∧ a ≠ 19 ∧ a ≠ 33 ∧ a ≠ 34 ∧ a ≠ 35 ∧ a ≠ 36) → σ356 a i = σ a i := fun a i h => (hfσ356 a i ⟨h.1, h.2.1, h.2.2.2.1, h.2.2.2.2.1⟩).trans (hFσ292 a i h)
                        have t36 := zx_g54 hσ292
                        have t37 : σ292 0 54 = σ152 0 54 := by rw [eσ292]; exact zq_up_ne (by omega)
                        have t38 : σ152 0 54 = σ 0 54 := by rw [eσ152]; exact zq_up_ne (by omega)
                        have t39 := zx_g54 hσ356
                        refine zr_goto (pc := 359) hV 378 dX12_doJob_359 (by decide) ?_
                        show V 378 [some (ZR 0), none, none, some (ZI (σ 35 ((σ 0 59) - 1))), some (ZI (σ 32 (σ 34 ((σ 0 59) - 1)))), some (ZI r68), none, some (ZI (σ 24 (σ 34 ((σ 0 59) - 1)))), none, none, none, some (ZI v0_264), some (ZI v0_283)] [] 41 σ356
                        exact zr_vret (pc := 378) hV dX12_doJob_378 rfl rfl ⟨rfl, hσ356, hFσ356, trivial, (show ∃ p2, zx_J σ356 f p2 ∧ zx_mu σ356 p2 < zx_mu σ p from (zx_J_pop ⟨fun i => hFσ356 21 i (by omega), fun i => hFσ356 23 i (by omega), fun i => hFσ356 24 i (by omega), fun i => hFσ356 31 i (by omega), hFσ356 0 37 (by omega)⟩ q0 q2 q3 ((hfσ356 0 59 (by omega)).trans (by rw [eσ292, zq_up_same, w59])) (fun i => (hfσ356 34 i (by omega)).trans (by rw [eσ292, zq_up_ne (by omega), eσ152, zq_up_ne (by omega)])) (fun i h => (hfσ356 36 i (by omega)).trans (by rw [eσ292, zq_up_ne (by omega), eσ152, zq_up_ne (by omega)])) (by have := zx_J_p2 q2 q3 (by omega); omega) (by rw [pσ356, eσ292, zq_up_ne (by omega), w54]; omega))), Bσ356⟩
                    · show V 322 [some (ZR 0), none, none, some (ZI (σ 35 ((σ 0 59) - 1))), some (ZI (σ 32 (σ 34 ((σ 0 59) - 1)))), some (ZI r68), none, some (ZI (σ 24 (σ 34 ((σ 0 59) - 1)))), none, none, none, some (ZI v0_264), some (ZI v0_283)] [] 41 σ292
                      refine zr_aload_n (pc := 322) hV dX12_doJob_322 rfl rfl ?_
                      refine zr_iload (pc := 323) hV dX12_doJob_323 rfl ?_
                      refine zr_iload_n (pc := 325) hV dX12_doJob_325 rfl rfl ?_
                      refine zr_iload (pc := 326) hV dX12_doJob_326 rfl ?_
                      refine zr_iconst (pc := 328) hV 0 dX12_doJob_328 rfl ?_
                      refine zr_aload_n (pc := 329) hV dX12_doJob_329 rfl rfl ?_
                      refine zr_getR (pc := 330) hV 39 22 dX12_doJob_330 fX12_90 rfl rfl rfl (by decide) (zx_g39 hσ292) (by omega) ?_
                      refine zr_iload (pc := 333) hV dX12_doJob_333 rfl ?_
                      refine zr_iald (pc := 335) hV dX12_doJob_335 rfl (by decide) rfl (by omega) ?_
                      have t40 := zx_ga22 hσ292 (σ 24 (σ 34 ((σ 0 59) - 1)))
                      have t41 : σ292 22 (σ 24 (σ 34 ((σ 0 59) - 1))) = σ152 22 (σ 24 (σ 34 ((σ 0 59) - 1))) := by rw [eσ292]; exact zq_up_ne (by omega)
                      have t42 : σ152 22 (σ 24 (σ 34 ((σ 0 59) - 1))) = σ 22 (σ 24 (σ 34 ((σ 0 59) - 1))) := by rw [eσ152]; exact zq_up_ne (by omega)
                      have t43 := zx_g54 hσ292
                      have t44 : σ292 0 54 = σ152 0 54 := by rw [eσ292]; exact zq_up_ne (by omega)
                      have t45 : σ152 0 54 = σ 0 54 := by rw [eσ152]; exact zq_up_ne (by omega)
                      refine zr_callVv (pc := 336) hV [ZI (σ 32 (σ 34 ((σ 0 59) - 1))), ZI (σ 35 ((σ 0 59) - 1)), ZI v0_264, ZI 0, ZI (σ292 22 (σ 24 (σ 34 ((σ 0 59) - 1))))] (st := []) (c_X12_emit2 (σ := σ292) hσ292 (σ 32 (σ 34 ((σ 0 59) - 1))) (σ 35 ((σ 0 59) - 1)) v0_264 0 (σ292 22 (σ 24 (σ 34 ((σ 0 59) - 1)))) (by omega) (by omega) (by omega) (by omega) (by omega) (by omega) Bσ292) dX12_doJob_336 mX12_452 rfl (by decide) (by decide) (Nat.le_of_ble_eq_true rfl) (Nat.le_refl _) (fun σ336 pσ336 => ?_)
                      obtain ⟨hσ336, hfσ336, pσ336, Bσ336⟩ := pσ336
                      have hFσ336 : ∀ a i : Int, (¬ (a = 0 ∧ i = 54) ∧ ¬ (a = 0 ∧ i = 55) ∧ ¬ (a = 0 ∧ i = 59) ∧ a ≠ 19 ∧ a ≠ 33 ∧ a ≠ 34 ∧ a ≠ 35 ∧ a ≠ 36) → σ336 a i = σ a i := fun a i h => (hfσ336 a i ⟨h.1, h.2.1, h.2.2.2.1, h.2.2.2.2.1⟩).trans (hFσ292 a i h)
                      have t46 := zx_g54 hσ292
                      have t47 : σ292 0 54 = σ152 0 54 := by rw [eσ292]; exact zq_up_ne (by omega)
                      have t48 : σ152 0 54 = σ 0 54 := by rw [eσ152]; exact zq_up_ne (by omega)
                      have t49 := zx_g54 hσ336
                      refine zr_goto (pc := 339) hV 378 dX12_doJob_339 (by decide) ?_
                      show V 378 [some (ZR 0), none, none, some (ZI (σ 35 ((σ 0 59) - 1))), some (ZI (σ 32 (σ 34 ((σ 0 59) - 1)))), some (ZI r68), none, some (ZI (σ 24 (σ 34 ((σ 0 59) - 1)))), none, none, none, some (ZI v0_264), some (ZI v0_283)] [] 41 σ336
                      exact zr_vret (pc := 378) hV dX12_doJob_378 rfl rfl ⟨rfl, hσ336, hFσ336, trivial, (show ∃ p2, zx_J σ336 f p2 ∧ zx_mu σ336 p2 < zx_mu σ p from (zx_J_pop ⟨fun i => hFσ336 21 i (by omega), fun i => hFσ336 23 i (by omega), fun i => hFσ336 24 i (by omega), fun i => hFσ336 31 i (by omega), hFσ336 0 37 (by omega)⟩ q0 q2 q3 ((hfσ336 0 59 (by omega)).trans (by rw [eσ292, zq_up_same, w59])) (fun i => (hfσ336 34 i (by omega)).trans (by rw [eσ292, zq_up_ne (by omega), eσ152, zq_up_ne (by omega)])) (fun i h => (hfσ336 36 i (by omega)).trans (by rw [eσ292, zq_up_ne (by omega), eσ152, zq_up_ne (by omega)])) (by have := zx_J_p2 q2 q3 (by omega); omega) (by rw [pσ336, eσ292, zq_up_ne (by omega), w54]; omega))), Bσ336⟩
                  · show V 301 [some (ZR 0), none, none, some (ZI (σ 35 ((σ 0 59) - 1))), some (ZI (σ 32 (σ 34 ((σ 0 59) - 1)))), some (ZI r68), none, some (ZI (σ 24 (σ 34 ((σ 0 59) - 1)))), none, none, none, some (ZI v0_264), some (ZI v0_283)] [] 41 σ292
                    refine zr_aload_n (pc := 301) hV dX12_doJob_301 rfl rfl ?_
                    refine zr_iload (pc := 302) hV dX12_doJob_302 rfl ?_
                    refine zr_iload_n (pc := 304) hV dX12_doJob_304 rfl rfl ?_
                    refine zr_iload (pc := 305) hV dX12_doJob_305 rfl ?_
                    refine zr_iload (pc := 307) hV dX12_doJob_307 rfl ?_
                    refine zr_iconst (pc := 309) hV 0 dX12_doJob_309 rfl ?_
                    have t50 := zx_g54 hσ292
                    have t51 : σ292 0 54 = σ152 0 54 := by rw [eσ292]; exact zq_up_ne (by omega)
                    have t52 : σ152 0 54 = σ 0 54 := by rw [eσ152]; exact zq_up_ne (by omega)
                    refine zr_callVv (pc := 310) hV [ZI (σ 32 (σ 34 ((σ 0 59) - 1))), ZI (σ 35 ((σ 0 59) - 1)), ZI v0_264, ZI v0_283, ZI 0] (st := []) (c_X12_emit2 (σ := σ292) hσ292 (σ 32 (σ 34 ((σ 0 59) - 1))) (σ 35 ((σ 0 59) - 1)) v0_264 v0_283 0 (by omega) (by omega) (by omega) (by omega) (by omega) (by omega) Bσ292) dX12_doJob_310 mX12_452 rfl (by decide) (by decide) (Nat.le_of_ble_eq_true rfl) (Nat.le_refl _) (fun σ310 pσ310 => ?_)
                    obtain ⟨hσ310, hfσ310, pσ310, Bσ310⟩ := pσ310
                    have hFσ310 : ∀ a i : Int, (¬ (a = 0 ∧ i = 54) ∧ ¬ (a = 0 ∧ i = 55) ∧ ¬ (a = 0 ∧ i = 59) ∧ a ≠ 19 ∧ a ≠ 33 ∧ a ≠ 34 ∧ a ≠ 35 ∧ a ≠ 36) → σ310 a i = σ a i := fun a i h => (hfσ310 a i ⟨h.1, h.2.1, h.2.2.2.1, h.2.2.2.2.1⟩).trans (hFσ292 a i h)
                    have t53 := zx_g54 hσ292
                    have t54 : σ292 0 54 = σ152 0 54 := by rw [eσ292]; exact zq_up_ne (by omega)
                    have t55 : σ152 0 54 = σ 0 54 := by rw [eσ152]; exact zq_up_ne (by omega)
                    have t56 := zx_g54 hσ310
                    refine zr_goto (pc := 313) hV 378 dX12_doJob_313 (by decide) ?_
                    show V 378 [some (ZR 0), none, none, some (ZI (σ 35 ((σ 0 59) - 1))), some (ZI (σ 32 (σ 34 ((σ 0 59) - 1)))), some (ZI r68), none, some (ZI (σ 24 (σ 34 ((σ 0 59) - 1)))), none, none, none, some (ZI v0_264), some (ZI v0_283)] [] 41 σ310
                    exact zr_vret (pc := 378) hV dX12_doJob_378 rfl rfl ⟨rfl, hσ310, hFσ310, trivial, (show ∃ p2, zx_J σ310 f p2 ∧ zx_mu σ310 p2 < zx_mu σ p from (zx_J_pop ⟨fun i => hFσ310 21 i (by omega), fun i => hFσ310 23 i (by omega), fun i => hFσ310 24 i (by omega), fun i => hFσ310 31 i (by omega), hFσ310 0 37 (by omega)⟩ q0 q2 q3 ((hfσ310 0 59 (by omega)).trans (by rw [eσ292, zq_up_same, w59])) (fun i => (hfσ310 34 i (by omega)).trans (by rw [eσ292, zq_up_ne (by omega), eσ152, zq_up_ne (by omega)])) (fun i h => (hfσ310 36 i (by omega)).trans (by rw [eσ292, zq_up_ne (by omega), eσ152, zq_up_ne (by omega)])) (by have := zx_J_p2 q2 q3 (by omega); omega) (by rw [pσ310, eσ292, zq_up_ne (by omega), w54]; omega))), Bσ310⟩
                refine zr_if_eq (pc := 268) hV 281 dX12_doJob_268 (by decide) (by omega) (fun c57 => ?_) (fun c57 => ?_)
                · show V 281 [some (ZR 0), none, none, some (ZI (σ 35 ((σ 0 59) - 1))), some (ZI (σ 32 (σ 34 ((σ 0 59) - 1)))), some (ZI r68), none, some (ZI (σ 24 (σ 34 ((σ 0 59) - 1)))), none, some (ZI v0_127), some (ZI v0_141), some (ZI v0_264), none] [] 41 σ152
                  refine zr_iload (pc := 281) hV dX12_doJob_281 rfl ?_
                  refine zr_sub (pc := 283) hV [some (ZR 0), none, none, some (ZI (σ 35 ((σ 0 59) - 1))), some (ZI (σ 32 (σ 34 ((σ 0 59) - 1)))), some (ZI r68), none, some (ZI (σ 24 (σ 34 ((σ 0 59) - 1)))), none, none, none, some (ZI v0_264), none] (⟨rfl, rfl, rfl, rfl, rfl, rfl, trivial⟩) ?_
                  exact J283 v0_141 (by omega)
                · show V 271 [some (ZR 0), none, none, some (ZI (σ 35 ((σ 0 59) - 1))), some (ZI (σ 32 (σ 34 ((σ 0 59) - 1)))), some (ZI r68), none, some (ZI (σ 24 (σ 34 ((σ 0 59) - 1)))), none, some (ZI v0_127), some (ZI v0_141), some (ZI v0_264), none] [] 41 σ152
                  refine zr_aload_n (pc := 271) hV dX12_doJob_271 rfl rfl ?_
                  refine zr_getR (pc := 272) hV 39 22 dX12_doJob_272 fX12_90 rfl rfl rfl (by decide) (zx_g39 hσ152) (by omega) ?_
                  refine zr_iload (pc := 275) hV dX12_doJob_275 rfl ?_
                  refine zr_iald (pc := 277) hV dX12_doJob_277 rfl (by decide) rfl (by omega) ?_
                  have t58 := zx_ga22 hσ152 (σ 24 (σ 34 ((σ 0 59) - 1)))
                  have t59 : σ152 22 (σ 24 (σ 34 ((σ 0 59) - 1))) = σ 22 (σ 24 (σ 34 ((σ 0 59) - 1))) := by rw [eσ152]; exact zq_up_ne (by omega)
                  refine zr_goto (pc := 278) hV 283 dX12_doJob_278 (by decide) ?_
                  refine zr_sub (pc := 283) hV [some (ZR 0), none, none, some (ZI (σ 35 ((σ 0 59) - 1))), some (ZI (σ 32 (σ 34 ((σ 0 59) - 1)))), some (ZI r68), none, some (ZI (σ 24 (σ 34 ((σ 0 59) - 1)))), none, none, none, some (ZI v0_264), none] (⟨rfl, rfl, rfl, rfl, rfl, rfl, trivial⟩) ?_
                  exact J283 (σ152 22 (σ 24 (σ 34 ((σ 0 59) - 1)))) (by omega)
              refine zr_if_eq (pc := 250) hV 263 dX12_doJob_250 (by decide) (by omega) (fun c60 => ?_) (fun c60 => ?_)
              · show V 263 [some (ZR 0), some (ZI ((σ 0 59) - 1)), none, some (ZI (σ 35 ((σ 0 59) - 1))), some (ZI (σ 32 (σ 34 ((σ 0 59) - 1)))), some (ZI r68), some (ZI (σ 23 (σ 34 ((σ 0 59) - 1)))), some (ZI (σ 24 (σ 34 ((σ 0 59) - 1)))), some (ZI v0_110), some (ZI v0_127), some (ZI v0_141), none, none] [] 41 σ152
                refine zr_iload_n (pc := 263) hV dX12_doJob_263 rfl rfl ?_
                refine zr_sub (pc := 264) hV [some (ZR 0), none, none, some (ZI (σ 35 ((σ 0 59) - 1))), some (ZI (σ 32 (σ 34 ((σ 0 59) - 1)))), some (ZI r68), none, some (ZI (σ 24 (σ 34 ((σ 0 59) - 1)))), none, some (ZI v0_127), some (ZI v0_141), none, none] (⟨rfl, rfl, rfl, rfl, rfl, rfl, rfl, trivial⟩) ?_
                exact J264 (σ 35 ((σ 0 59) - 1)) (by omega)
              · show V 253 [some (ZR 0), some (ZI ((σ 0 59) - 1)), none, some (ZI (σ 35 ((σ 0 59) - 1))), some (ZI (σ 32 (σ 34 ((σ 0 59) - 1)))), some (ZI r68), some (ZI (σ 23 (σ 34 ((σ 0 59) - 1)))), some (ZI (σ 24 (σ 34 ((σ 0 59) - 1)))), some (ZI v0_110), some (ZI v0_127), some (ZI v0_141), none, none] [] 41 σ152
                refine zr_aload_n (pc := 253) hV dX12_doJob_253 rfl rfl ?_
                refine zr_getR (pc := 254) hV 39 22 dX12_doJob_254 fX12_90 rfl rfl rfl (by decide) (zx_g39 hσ152) (by omega) ?_
                refine zr_iload (pc := 257) hV dX12_doJob_257 rfl ?_
                refine zr_iald (pc := 259) hV dX12_doJob_259 rfl (by decide) rfl (by omega) ?_
                have t61 := zx_ga22 hσ152 (σ 23 (σ 34 ((σ 0 59) - 1)))
                have t62 : σ152 22 (σ 23 (σ 34 ((σ 0 59) - 1))) = σ 22 (σ 23 (σ 34 ((σ 0 59) - 1))) := by rw [eσ152]; exact zq_up_ne (by omega)
                refine zr_goto (pc := 260) hV 264 dX12_doJob_260 (by decide) ?_
                refine zr_sub (pc := 264) hV [some (ZR 0), none, none, some (ZI (σ 35 ((σ 0 59) - 1))), some (ZI (σ 32 (σ 34 ((σ 0 59) - 1)))), some (ZI r68), none, some (ZI (σ 24 (σ 34 ((σ 0 59) - 1)))), none, some (ZI v0_127), some (ZI v0_141), none, none] (⟨rfl, rfl, rfl, rfl, rfl, rfl, rfl, trivial⟩) ?_
                exact J264 (σ152 22 (σ 23 (σ 34 ((σ 0 59) - 1)))) (by omega)
            · show V 220 [some (ZR 0), some (ZI ((σ 0 59) - 1)), none, some (ZI (σ 35 ((σ 0 59) - 1))), some (ZI (σ 32 (σ 34 ((σ 0 59) - 1)))), some (ZI r68), some (ZI (σ 23 (σ 34 ((σ 0 59) - 1)))), some (ZI (σ 24 (σ 34 ((σ 0 59) - 1)))), some (ZI v0_110), some (ZI v0_127), some (ZI v0_141), none, none] [] 41 σ152
              refine zr_iload (pc := 220) hV dX12_doJob_220 rfl ?_
              refine zr_iconst (pc := 222) hV 3 dX12_doJob_222 rfl ?_
              refine zr_icmp_eq (pc := 223) hV 232 dX12_doJob_223 (by decide) (by omega) ⟨by decide, by decide⟩ (fun c63 => ?_) (fun c63 => ?_)
              · show V 232 [some (ZR 0), some (ZI ((σ 0 59) - 1)), none, some (ZI (σ 35 ((σ 0 59) - 1))), some (ZI (σ 32 (σ 34 ((σ 0 59) - 1)))), some (ZI r68), some (ZI (σ 23 (σ 34 ((σ 0 59) - 1)))), some (ZI (σ 24 (σ 34 ((σ 0 59) - 1)))), some (ZI v0_110), some (ZI v0_127), some (ZI v0_141), none, none] [] 41 σ152
                refine zr_iload (pc := 232) hV dX12_doJob_232 rfl ?_
                refine zr_if_ne (pc := 234) hV 378 dX12_doJob_234 (by decide) (by omega) (fun c64 => ?_) (fun c64 => ?_)
                · show V 378 [some (ZR 0), some (ZI ((σ 0 59) - 1)), none, some (ZI (σ 35 ((σ 0 59) - 1))), some (ZI (σ 32 (σ 34 ((σ 0 59) - 1)))), some (ZI r68), some (ZI (σ 23 (σ 34 ((σ 0 59) - 1)))), some (ZI (σ 24 (σ 34 ((σ 0 59) - 1)))), some (ZI v0_110), some (ZI v0_127), some (ZI v0_141), none, none] [] 41 σ152
                  exact zr_vret (pc := 378) hV dX12_doJob_378 rfl rfl ⟨rfl, hσ152, hFσ152, trivial, (show ∃ p2, zx_J σ152 f p2 ∧ zx_mu σ152 p2 < zx_mu σ p from (zx_J_stay1 ⟨fun i => hFσ152 21 i (by omega), fun i => hFσ152 23 i (by omega), fun i => hFσ152 24 i (by omega), fun i => hFσ152 31 i (by omega), hFσ152 0 37 (by omega)⟩ q0 q2 q3 w59 (fun i => by rw [eσ152, zq_up_ne (by omega)]) (fun i h => by rw [eσ152, zq_up_ne (by omega)]) (by rw [eσ152, zq_up_same]; omega) (by omega) w54)), Bσ152⟩
                · show V 237 [some (ZR 0), some (ZI ((σ 0 59) - 1)), none, some (ZI (σ 35 ((σ 0 59) - 1))), some (ZI (σ 32 (σ 34 ((σ 0 59) - 1)))), some (ZI r68), some (ZI (σ 23 (σ 34 ((σ 0 59) - 1)))), some (ZI (σ 24 (σ 34 ((σ 0 59) - 1)))), some (ZI v0_110), some (ZI v0_127), some (ZI v0_141), none, none] [] 41 σ152
                  refine zr_aload_n (pc := 237) hV dX12_doJob_237 rfl rfl ?_
                  refine zr_iload (pc := 238) hV dX12_doJob_238 rfl ?_
                  refine zr_iload (pc := 240) hV dX12_doJob_240 rfl ?_
                  have rk : σ 21 (σ 24 (σ 34 (σ 0 59 - 1))) ≠ 0 := by have u : (v0_127 = 1 ∧ σ 21 (σ 24 (σ 34 (σ 0 59 - 1))) = 0) ∨ (v0_127 = 0 ∧ σ 21 (σ 24 (σ 34 (σ 0 59 - 1))) ≠ 0) := hi127_0; omega
                  have t65 := zx_g59 hσ152
                  have t66 : σ152 0 59 = σ 0 59 := by rw [eσ152]; exact zq_up_ne (by omega)
                  refine zr_callVv (pc := 242) hV [ZI (σ 24 (σ 34 ((σ 0 59) - 1))), ZI v0_141] (st := []) (c_X12_addJob2 (σ := σ152) hσ152 (σ 24 (σ 34 ((σ 0 59) - 1))) v0_141 (by omega) (by omega) (by omega)) dX12_doJob_242 mX12_456 rfl (by decide) (by decide) (Nat.le_of_ble_eq_true rfl) (Nat.le_refl _) (fun σ242 pσ242 => ?_)
                  obtain ⟨hσ242, hfσ242, pσ242⟩ := pσ242
                  have Bσ242 : zx_MB σ242 := zx_MB_fr (fun i => hfσ242 33 i (by omega)) (hfσ242 0 54 (by omega)) (hfσ242 0 2 (by omega)) Bσ152
                  have hFσ242 : ∀ a i : Int, (¬ (a = 0 ∧ i = 54) ∧ ¬ (a = 0 ∧ i = 55) ∧ ¬ (a = 0 ∧ i = 59) ∧ a ≠ 19 ∧ a ≠ 33 ∧ a ≠ 34 ∧ a ≠ 35 ∧ a ≠ 36) → σ242 a i = σ a i := fun a i h => (hfσ242 a i ⟨h.2.2.1, (fun q => h.2.2.2.2.2.1 q.1), (fun q => h.2.2.2.2.2.2.1 q.1), (fun q => h.2.2.2.2.2.2.2 q.1)⟩).trans (hFσ152 a i h)
                  have t67 := zx_g59 hσ152
                  have t68 : σ152 0 59 = σ 0 59 := by rw [eσ152]; exact zq_up_ne (by omega)
                  have t69 := zx_g59 hσ242
                  refine zr_goto (pc := 245) hV 378 dX12_doJob_245 (by decide) ?_
                  show V 378 [some (ZR 0), some (ZI ((σ 0 59) - 1)), none, some (ZI (σ 35 ((σ 0 59) - 1))), some (ZI (σ 32 (σ 34 ((σ 0 59) - 1)))), some (ZI r68), some (ZI (σ 23 (σ 34 ((σ 0 59) - 1)))), some (ZI (σ 24 (σ 34 ((σ 0 59) - 1)))), some (ZI v0_110), some (ZI v0_127), some (ZI v0_141), none, none] [] 41 σ242
                  exact zr_vret (pc := 378) hV dX12_doJob_378 rfl rfl ⟨rfl, hσ242, hFσ242, trivial, (show ∃ p2, zx_J σ242 f p2 ∧ zx_mu σ242 p2 < zx_mu σ p from (zx_J_push ⟨fun i => hFσ242 21 i (by omega), fun i => hFσ242 23 i (by omega), fun i => hFσ242 24 i (by omega), fun i => hFσ242 31 i (by omega), hFσ242 0 37 (by omega)⟩ q0 q2 q3 (by rw [pσ242.1]; omega) (fun i h => (hfσ242 34 i (by omega)).trans (by rw [eσ152, zq_up_ne (by omega)])) (by have h := pσ242.2.1; rw [w59] at h; exact h) (fun i h1 h2 => (hfσ242 36 i (by omega)).trans (by rw [eσ152, zq_up_ne (by omega)])) (by have h := pσ242.2.2; rw [w59] at h; exact h) ((hfσ242 36 _ (by omega)).trans (by rw [eσ152, zq_up_same])) k2 (Or.inr ⟨by omega, rfl⟩) rk (d3 (by omega)) ((hfσ242 0 54 (by omega)).trans (by rw [eσ152, zq_up_ne (by omega)])))), Bσ242⟩
              · show V 226 [some (ZR 0), some (ZI ((σ 0 59) - 1)), none, some (ZI (σ 35 ((σ 0 59) - 1))), some (ZI (σ 32 (σ 34 ((σ 0 59) - 1)))), some (ZI r68), some (ZI (σ 23 (σ 34 ((σ 0 59) - 1)))), some (ZI (σ 24 (σ 34 ((σ 0 59) - 1)))), some (ZI v0_110), some (ZI v0_127), some (ZI v0_141), none, none] [] 41 σ152
                refine zr_iload (pc := 226) hV dX12_doJob_226 rfl ?_
                refine zr_iconst (pc := 228) hV 5 dX12_doJob_228 rfl ?_
                refine zr_icmp_ne (pc := 229) hV 378 dX12_doJob_229 (by decide) (by omega) ⟨by decide, by decide⟩ (fun c70 => ?_) (fun c70 => ?_)
                · show V 378 [some (ZR 0), some (ZI ((σ 0 59) - 1)), none, some (ZI (σ 35 ((σ 0 59) - 1))), some (ZI (σ 32 (σ 34 ((σ 0 59) - 1)))), some (ZI r68), some (ZI (σ 23 (σ 34 ((σ 0 59) - 1)))), some (ZI (σ 24 (σ 34 ((σ 0 59) - 1)))), some (ZI v0_110), some (ZI v0_127), some (ZI v0_141), none, none] [] 41 σ152
                  exact zr_vret (pc := 378) hV dX12_doJob_378 rfl rfl ⟨rfl, hσ152, hFσ152, trivial, (show ∃ p2, zx_J σ152 f p2 ∧ zx_mu σ152 p2 < zx_mu σ p from (zx_J_stay1 ⟨fun i => hFσ152 21 i (by omega), fun i => hFσ152 23 i (by omega), fun i => hFσ152 24 i (by omega), fun i => hFσ152 31 i (by omega), hFσ152 0 37 (by omega)⟩ q0 q2 q3 w59 (fun i => by rw [eσ152, zq_up_ne (by omega)]) (fun i h => by rw [eσ152, zq_up_ne (by omega)]) (by rw [eσ152, zq_up_same]; omega) (by omega) w54)), Bσ152⟩
                · show V 232 [some (ZR 0), some (ZI ((σ 0 59) - 1)), none, some (ZI (σ 35 ((σ 0 59) - 1))), some (ZI (σ 32 (σ 34 ((σ 0 59) - 1)))), some (ZI r68), some (ZI (σ 23 (σ 34 ((σ 0 59) - 1)))), some (ZI (σ 24 (σ 34 ((σ 0 59) - 1)))), some (ZI v0_110), some (ZI v0_127), some (ZI v0_141), none, none] [] 41 σ152
                  refine zr_iload (pc := 232) hV dX12_doJob_232 rfl ?_
                  refine zr_if_ne (pc := 234) hV 378 dX12_doJob_234 (by decide) (by omega) (fun c71 => ?_) (fun c71 => ?_)
                  · show V 378 [some (ZR 0), some (ZI ((σ 0 59) - 1)), none, some (ZI (σ 35 ((σ 0 59) - 1))), some (ZI (σ 32 (σ 34 ((σ 0 59) - 1)))), some (ZI r68), some (ZI (σ 23 (σ 34 ((σ 0 59) - 1)))), some (ZI (σ 24 (σ 34 ((σ 0 59) - 1)))), some (ZI v0_110), some (ZI v0_127), some (ZI v0_141), none, none] [] 41 σ152
                    exact zr_vret (pc := 378) hV dX12_doJob_378 rfl rfl ⟨rfl, hσ152, hFσ152, trivial, (show ∃ p2, zx_J σ152 f p2 ∧ zx_mu σ152 p2 < zx_mu σ p from (zx_J_stay1 ⟨fun i => hFσ152 21 i (by omega), fun i => hFσ152 23 i (by omega), fun i => hFσ152 24 i (by omega), fun i => hFσ152 31 i (by omega), hFσ152 0 37 (by omega)⟩ q0 q2 q3 w59 (fun i => by rw [eσ152, zq_up_ne (by omega)]) (fun i h => by rw [eσ152, zq_up_ne (by omega)]) (by rw [eσ152, zq_up_same]; omega) (by omega) w54)), Bσ152⟩
                  · show V 237 [some (ZR 0), some (ZI ((σ 0 59) - 1)), none, some (ZI (σ 35 ((σ 0 59) - 1))), some (ZI (σ 32 (σ 34 ((σ 0 59) - 1)))), some (ZI r68), some (ZI (σ 23 (σ 34 ((σ 0 59) - 1)))), some (ZI (σ 24 (σ 34 ((σ 0 59) - 1)))), some (ZI v0_110), some (ZI v0_127), some (ZI v0_141), none, none] [] 41 σ152
                    refine zr_aload_n (pc := 237) hV dX12_doJob_237 rfl rfl ?_
                    refine zr_iload (pc := 238) hV dX12_doJob_238 rfl ?_
                    refine zr_iload (pc := 240) hV dX12_doJob_240 rfl ?_
                    have rk : σ 21 (σ 24 (σ 34 (σ 0 59 - 1))) ≠ 0 := by have u : (v0_127 = 1 ∧ σ 21 (σ 24 (σ 34 (σ 0 59 - 1))) = 0) ∨ (v0_127 = 0 ∧ σ 21 (σ 24 (σ 34 (σ 0 59 - 1))) ≠ 0) := hi127_0; omega
                    have t72 := zx_g59 hσ152
                    have t73 : σ152 0 59 = σ 0 59 := by rw [eσ152]; exact zq_up_ne (by omega)
                    refine zr_callVv (pc := 242) hV [ZI (σ 24 (σ 34 ((σ 0 59) - 1))), ZI v0_141] (st := []) (c_X12_addJob2 (σ := σ152) hσ152 (σ 24 (σ 34 ((σ 0 59) - 1))) v0_141 (by omega) (by omega) (by omega)) dX12_doJob_242 mX12_456 rfl (by decide) (by decide) (Nat.le_of_ble_eq_true rfl) (Nat.le_refl _) (fun σ242 pσ242 => ?_)
                    obtain ⟨hσ242, hfσ242, pσ242⟩ := pσ242
                    have Bσ242 : zx_MB σ242 := zx_MB_fr (fun i => hfσ242 33 i (by omega)) (hfσ242 0 54 (by omega)) (hfσ242 0 2 (by omega)) Bσ152
                    have hFσ242 : ∀ a i : Int, (¬ (a = 0 ∧ i = 54) ∧ ¬ (a = 0 ∧ i = 55) ∧ ¬ (a = 0 ∧ i = 59) ∧ a ≠ 19 ∧ a ≠ 33 ∧ a ≠ 34 ∧ a ≠ 35 ∧ a ≠ 36) → σ242 a i = σ a i := fun a i h => (hfσ242 a i ⟨h.2.2.1, (fun q => h.2.2.2.2.2.1 q.1), (fun q => h.2.2.2.2.2.2.1 q.1), (fun q => h.2.2.2.2.2.2.2 q.1)⟩).trans (hFσ152 a i h)
                    have t74 := zx_g59 hσ152
                    have t75 : σ152 0 59 = σ 0 59 := by rw [eσ152]; exact zq_up_ne (by omega)
                    have t76 := zx_g59 hσ242
                    refine zr_goto (pc := 245) hV 378 dX12_doJob_245 (by decide) ?_
                    show V 378 [some (ZR 0), some (ZI ((σ 0 59) - 1)), none, some (ZI (σ 35 ((σ 0 59) - 1))), some (ZI (σ 32 (σ 34 ((σ 0 59) - 1)))), some (ZI r68), some (ZI (σ 23 (σ 34 ((σ 0 59) - 1)))), some (ZI (σ 24 (σ 34 ((σ 0 59) - 1)))), some (ZI v0_110), some (ZI v0_127), some (ZI v0_141), none, none] [] 41 σ242
                    exact zr_vret (pc := 378) hV dX12_doJob_378 rfl rfl ⟨rfl, hσ242, hFσ242, trivial, (show ∃ p2, zx_J σ242 f p2 ∧ zx_mu σ242 p2 < zx_mu σ p from (zx_J_push ⟨fun i => hFσ242 21 i (by omega), fun i => hFσ242 23 i (by omega), fun i => hFσ242 24 i (by omega), fun i => hFσ242 31 i (by omega), hFσ242 0 37 (by omega)⟩ q0 q2 q3 (by rw [pσ242.1]; omega) (fun i h => (hfσ242 34 i (by omega)).trans (by rw [eσ152, zq_up_ne (by omega)])) (by have h := pσ242.2.1; rw [w59] at h; exact h) (fun i h1 h2 => (hfσ242 36 i (by omega)).trans (by rw [eσ152, zq_up_ne (by omega)])) (by have h := pσ242.2.2; rw [w59] at h; exact h) ((hfσ242 36 _ (by omega)).trans (by rw [eσ152, zq_up_same])) k2 (Or.inr ⟨by omega, rfl⟩) rk (d3 (by omega)) ((hfσ242 0 54 (by omega)).trans (by rw [eσ152, zq_up_ne (by omega)])))), Bσ242⟩
          · show V 163 [some (ZR 0), some (ZI ((σ 0 59) - 1)), none, some (ZI (σ 35 ((σ 0 59) - 1))), some (ZI (σ 32 (σ 34 ((σ 0 59) - 1)))), some (ZI r68), some (ZI (σ 23 (σ 34 ((σ 0 59) - 1)))), some (ZI (σ 24 (σ 34 ((σ 0 59) - 1)))), some (ZI v0_110), some (ZI v0_127), some (ZI v0_141), none, none] [] 41 σ152
            refine zr_aload_n (pc := 163) hV dX12_doJob_163 rfl rfl ?_
            refine zr_getR (pc := 164) hV 38 21 dX12_doJob_164 fX12_87 rfl rfl rfl (by decide) (zx_g38 hσ152) (by omega) ?_
            refine zr_iload (pc := 167) hV dX12_doJob_167 rfl ?_
            refine zr_iald (pc := 169) hV dX12_doJob_169 rfl (by decide) rfl (by omega) ?_
            have t77 := zx_ga21 hσ152 (σ 23 (σ 34 ((σ 0 59) - 1)))
            have t78 : σ152 21 (σ 23 (σ 34 ((σ 0 59) - 1))) = σ 21 (σ 23 (σ 34 ((σ 0 59) - 1))) := by rw [eσ152]; exact zq_up_ne (by omega)
            refine zr_if_eq (pc := 170) hV 183 dX12_doJob_170 (by decide) (by omega) (fun c79 => ?_) (fun c79 => ?_)
            · show V 183 [some (ZR 0), some (ZI ((σ 0 59) - 1)), none, some (ZI (σ 35 ((σ 0 59) - 1))), some (ZI (σ 32 (σ 34 ((σ 0 59) - 1)))), some (ZI r68), some (ZI (σ 23 (σ 34 ((σ 0 59) - 1)))), some (ZI (σ 24 (σ 34 ((σ 0 59) - 1)))), some (ZI v0_110), some (ZI v0_127), some (ZI v0_141), none, none] [] 41 σ152
              refine zr_iload (pc := 183) hV dX12_doJob_183 rfl ?_
              refine zr_iconst (pc := 185) hV 5 dX12_doJob_185 rfl ?_
              refine zr_icmp_lt (pc := 186) hV 378 dX12_doJob_186 (by decide) (by omega) ⟨by decide, by decide⟩ (fun c80 => ?_) (fun c80 => ?_)
              · show V 378 [some (ZR 0), some (ZI ((σ 0 59) - 1)), none, some (ZI (σ 35 ((σ 0 59) - 1))), some (ZI (σ 32 (σ 34 ((σ 0 59) - 1)))), some (ZI r68), some (ZI (σ 23 (σ 34 ((σ 0 59) - 1)))), some (ZI (σ 24 (σ 34 ((σ 0 59) - 1)))), some (ZI v0_110), some (ZI v0_127), some (ZI v0_141), none, none] [] 41 σ152
                exact zr_vret (pc := 378) hV dX12_doJob_378 rfl rfl ⟨rfl, hσ152, hFσ152, trivial, (show ∃ p2, zx_J σ152 f p2 ∧ zx_mu σ152 p2 < zx_mu σ p from (zx_J_stay0 ⟨fun i => hFσ152 21 i (by omega), fun i => hFσ152 23 i (by omega), fun i => hFσ152 24 i (by omega), fun i => hFσ152 31 i (by omega), hFσ152 0 37 (by omega)⟩ q0 q2 q3 w59 (fun i => by rw [eσ152, zq_up_ne (by omega)]) (fun i h => by rw [eσ152, zq_up_ne (by omega)]) (by rw [eσ152, zq_up_same]; omega) (by omega) k2 (by omega) (by rw [w54]; omega))), Bσ152⟩
              · show V 189 [some (ZR 0), some (ZI ((σ 0 59) - 1)), none, some (ZI (σ 35 ((σ 0 59) - 1))), some (ZI (σ 32 (σ 34 ((σ 0 59) - 1)))), some (ZI r68), some (ZI (σ 23 (σ 34 ((σ 0 59) - 1)))), some (ZI (σ 24 (σ 34 ((σ 0 59) - 1)))), some (ZI v0_110), some (ZI v0_127), some (ZI v0_141), none, none] [] 41 σ152
                refine zr_aload_n (pc := 189) hV dX12_doJob_189 rfl rfl ?_
                refine zr_aload_n (pc := 190) hV dX12_doJob_190 rfl rfl ?_
                refine zr_callVp (pc := 191) hV [] (st := [ZR 0]) (c_X12_leastMove (σ := σ152) hσ152 ) dX12_doJob_191 mX12_434 rfl (by decide) (by decide) (Nat.le_of_ble_eq_true rfl) (Nat.le_refl _) (fun r191 hr191 pr191 => ?_)
                have t81 := zx_g3 hσ152
                have t82 : σ152 0 3 = σ 0 3 := by rw [eσ152]; exact zq_up_ne (by omega)
                have lm : 0 ≤ r191 := by rw [pr191.2.2.2, zx_lm_fr (fun i => hFσ152 2 i (by omega)) (fun i => hFσ152 3 i (by omega)) (fun i => hFσ152 5 i (by omega)) (fun i => hFσ152 6 i (by omega)) (fun i => hFσ152 7 i (by omega)) (hFσ152 0 2 (by omega)), hFσ152 0 3 (by omega)]; exact d4 (by omega) (by omega)
                refine zr_iload_n (pc := 194) hV dX12_doJob_194 rfl rfl ?_
                refine zr_aload_n (pc := 195) hV dX12_doJob_195 rfl rfl ?_
                refine zr_getR (pc := 196) hV 39 22 dX12_doJob_196 fX12_90 rfl rfl rfl (by decide) (zx_g39 hσ152) (by omega) ?_
                refine zr_iload (pc := 199) hV dX12_doJob_199 rfl ?_
                refine zr_iald (pc := 201) hV dX12_doJob_201 rfl (by decide) rfl (by omega) ?_
                have t83 := zx_ga22 hσ152 (σ 23 (σ 34 ((σ 0 59) - 1)))
                have t84 : σ152 22 (σ 23 (σ 34 ((σ 0 59) - 1))) = σ 22 (σ 23 (σ 34 ((σ 0 59) - 1))) := by rw [eσ152]; exact zq_up_ne (by omega)
                refine zr_iconst (pc := 202) hV 0 dX12_doJob_202 rfl ?_
                refine zr_iconst (pc := 203) hV 0 dX12_doJob_203 rfl ?_
                have t85 := zx_g54 hσ152
                have t86 : σ152 0 54 = σ 0 54 := by rw [eσ152]; exact zq_up_ne (by omega)
                refine zr_callVv (pc := 204) hV [ZI r191, ZI (σ 35 ((σ 0 59) - 1)), ZI (σ152 22 (σ 23 (σ 34 ((σ 0 59) - 1)))), ZI 0, ZI 0] (st := []) (c_X12_emit2 (σ := σ152) hσ152 r191 (σ 35 ((σ 0 59) - 1)) (σ152 22 (σ 23 (σ 34 ((σ 0 59) - 1)))) 0 0 (by omega) (by omega) (by omega) (by omega) (by omega) (by omega) Bσ152) dX12_doJob_204 mX12_452 rfl (by decide) (by decide) (Nat.le_of_ble_eq_true rfl) (Nat.le_refl _) (fun σ204 pσ204 => ?_)
                obtain ⟨hσ204, hfσ204, pσ204, Bσ204⟩ := pσ204
                have hFσ204 : ∀ a i : Int, (¬ (a = 0 ∧ i = 54) ∧ ¬ (a = 0 ∧ i = 55) ∧ ¬ (a = 0 ∧ i = 59) ∧ a ≠ 19 ∧ a ≠ 33 ∧ a ≠ 34 ∧ a ≠ 35 ∧ a ≠ 36) → σ204 a i = σ a i := fun a i h => (hfσ204 a i ⟨h.1, h.2.1, h.2.2.2.1, h.2.2.2.2.1⟩).trans (hFσ152 a i h)
                have t87 := zx_g54 hσ152
                have t88 : σ152 0 54 = σ 0 54 := by rw [eσ152]; exact zq_up_ne (by omega)
                have t89 := zx_g54 hσ204
                refine zr_goto (pc := 207) hV 378 dX12_doJob_207 (by decide) ?_
                show V 378 [some (ZR 0), some (ZI ((σ 0 59) - 1)), none, some (ZI (σ 35 ((σ 0 59) - 1))), some (ZI (σ 32 (σ 34 ((σ 0 59) - 1)))), some (ZI r68), some (ZI (σ 23 (σ 34 ((σ 0 59) - 1)))), some (ZI (σ 24 (σ 34 ((σ 0 59) - 1)))), some (ZI v0_110), some (ZI v0_127), some (ZI v0_141), none, none] [] 41 σ204
                exact zr_vret (pc := 378) hV dX12_doJob_378 rfl rfl ⟨rfl, hσ204, hFσ204, trivial, (show ∃ p2, zx_J σ204 f p2 ∧ zx_mu σ204 p2 < zx_mu σ p from (zx_J_stay0 ⟨fun i => hFσ204 21 i (by omega), fun i => hFσ204 23 i (by omega), fun i => hFσ204 24 i (by omega), fun i => hFσ204 31 i (by omega), hFσ204 0 37 (by omega)⟩ q0 q2 q3 ((hfσ204 0 59 (by omega)).trans w59) (fun i => (hfσ204 34 i (by omega)).trans (by rw [eσ152, zq_up_ne (by omega)])) (fun i h => (hfσ204 36 i (by omega)).trans (by rw [eσ152, zq_up_ne (by omega)])) ((hfσ204 36 _ (by omega)).trans (by rw [eσ152, zq_up_same]; omega)) (by omega) k2 (by omega) (by rw [pσ204, w54]; omega))), Bσ204⟩
            · show V 173 [some (ZR 0), some (ZI ((σ 0 59) - 1)), none, some (ZI (σ 35 ((σ 0 59) - 1))), some (ZI (σ 32 (σ 34 ((σ 0 59) - 1)))), some (ZI r68), some (ZI (σ 23 (σ 34 ((σ 0 59) - 1)))), some (ZI (σ 24 (σ 34 ((σ 0 59) - 1)))), some (ZI v0_110), some (ZI v0_127), some (ZI v0_141), none, none] [] 41 σ152
              refine zr_aload_n (pc := 173) hV dX12_doJob_173 rfl rfl ?_
              refine zr_iload (pc := 174) hV dX12_doJob_174 rfl ?_
              refine zr_iload_n (pc := 176) hV dX12_doJob_176 rfl rfl ?_
              have t90 := zx_g59 hσ152
              have t91 : σ152 0 59 = σ 0 59 := by rw [eσ152]; exact zq_up_ne (by omega)
              refine zr_callVv (pc := 177) hV [ZI (σ 23 (σ 34 ((σ 0 59) - 1))), ZI (σ 35 ((σ 0 59) - 1))] (st := []) (c_X12_addJob2 (σ := σ152) hσ152 (σ 23 (σ 34 ((σ 0 59) - 1))) (σ 35 ((σ 0 59) - 1)) (by omega) (by omega) (by omega)) dX12_doJob_177 mX12_456 rfl (by decide) (by decide) (Nat.le_of_ble_eq_true rfl) (Nat.le_refl _) (fun σ177 pσ177 => ?_)
              obtain ⟨hσ177, hfσ177, pσ177⟩ := pσ177
              have Bσ177 : zx_MB σ177 := zx_MB_fr (fun i => hfσ177 33 i (by omega)) (hfσ177 0 54 (by omega)) (hfσ177 0 2 (by omega)) Bσ152
              have hFσ177 : ∀ a i : Int, (¬ (a = 0 ∧ i = 54) ∧ ¬ (a = 0 ∧ i = 55) ∧ ¬ (a = 0 ∧ i = 59) ∧ a ≠ 19 ∧ a ≠ 33 ∧ a ≠ 34 ∧ a ≠ 35 ∧ a ≠ 36) → σ177 a i = σ a i := fun a i h => (hfσ177 a i ⟨h.2.2.1, (fun q => h.2.2.2.2.2.1 q.1), (fun q => h.2.2.2.2.2.2.1 q.1), (fun q => h.2.2.2.2.2.2.2 q.1)⟩).trans (hFσ152 a i h)
              have t92 := zx_g59 hσ152
              have t93 : σ152 0 59 = σ 0 59 := by rw [eσ152]; exact zq_up_ne (by omega)
              have t94 := zx_g59 hσ177
              refine zr_goto (pc := 180) hV 378 dX12_doJob_180 (by decide) ?_
              show V 378 [some (ZR 0), some (ZI ((σ 0 59) - 1)), none, some (ZI (σ 35 ((σ 0 59) - 1))), some (ZI (σ 32 (σ 34 ((σ 0 59) - 1)))), some (ZI r68), some (ZI (σ 23 (σ 34 ((σ 0 59) - 1)))), some (ZI (σ 24 (σ 34 ((σ 0 59) - 1)))), some (ZI v0_110), some (ZI v0_127), some (ZI v0_141), none, none] [] 41 σ177
              exact zr_vret (pc := 378) hV dX12_doJob_378 rfl rfl ⟨rfl, hσ177, hFσ177, trivial, (show ∃ p2, zx_J σ177 f p2 ∧ zx_mu σ177 p2 < zx_mu σ p from (zx_J_push ⟨fun i => hFσ177 21 i (by omega), fun i => hFσ177 23 i (by omega), fun i => hFσ177 24 i (by omega), fun i => hFσ177 31 i (by omega), hFσ177 0 37 (by omega)⟩ q0 q2 q3 (by rw [pσ177.1]; omega) (fun i h => (hfσ177 34 i (by omega)).trans (by rw [eσ152, zq_up_ne (by omega)])) (by have h := pσ177.2.1; rw [w59] at h; exact h) (fun i h1 h2 => (hfσ177 36 i (by omega)).trans (by rw [eσ152, zq_up_ne (by omega)])) (by have h := pσ177.2.2; rw [w59] at h; exact h) ((hfσ177 36 _ (by omega)).trans (by rw [eσ152, zq_up_same])) k2 (Or.inl ⟨by omega, rfl⟩) (by omega) d2 ((hfσ177 0 54 (by omega)).trans (by rw [eσ152, zq_up_ne (by omega)])))), Bσ177⟩
        refine zr_if_eq (pc := 131) hV 138 dX12_doJob_131 (by decide) (by omega) (fun c95 => ?_) (fun c95 => ?_)
        · show V 138 [some (ZR 0), some (ZI ((σ 0 59) - 1)), none, some (ZI (σ 35 ((σ 0 59) - 1))), some (ZI (σ 32 (σ 34 ((σ 0 59) - 1)))), some (ZI r68), some (ZI (σ 23 (σ 34 ((σ 0 59) - 1)))), some (ZI (σ 24 (σ 34 ((σ 0 59) - 1)))), some (ZI v0_110), some (ZI v0_127), none, none, none] [] 41 σ
          refine zr_iload_n (pc := 138) hV dX12_doJob_138 rfl rfl ?_
          refine zr_iconst (pc := 139) hV 1 dX12_doJob_139 rfl ?_
          refine zr_iadd (pc := 140) hV dX12_doJob_140 ?_
          refine zr_any (pc := 141) hV (fun y141 hy141 _ => ?_)
          exact J141 y141 (by omega)
        · show V 134 [some (ZR 0), some (ZI ((σ 0 59) - 1)), none, some (ZI (σ 35 ((σ 0 59) - 1))), some (ZI (σ 32 (σ 34 ((σ 0 59) - 1)))), some (ZI r68), some (ZI (σ 23 (σ 34 ((σ 0 59) - 1)))), some (ZI (σ 24 (σ 34 ((σ 0 59) - 1)))), some (ZI v0_110), some (ZI v0_127), none, none, none] [] 41 σ
          refine zr_iload_n (pc := 134) hV dX12_doJob_134 rfl rfl ?_
          refine zr_goto (pc := 135) hV 141 dX12_doJob_135 (by decide) ?_
          exact J141 (σ 35 ((σ 0 59) - 1)) (by omega)
      refine zr_if_ne (pc := 119) hV 126 dX12_doJob_119 (by decide) (by omega) (fun c96 => ?_) (fun c96 => ?_)
      · show V 126 [some (ZR 0), some (ZI ((σ 0 59) - 1)), none, some (ZI (σ 35 ((σ 0 59) - 1))), some (ZI (σ 32 (σ 34 ((σ 0 59) - 1)))), some (ZI r68), some (ZI (σ 23 (σ 34 ((σ 0 59) - 1)))), some (ZI (σ 24 (σ 34 ((σ 0 59) - 1)))), some (ZI v0_110), none, none, none, none] [] 41 σ
        refine zr_iconst (pc := 126) hV 0 dX12_doJob_126 rfl ?_
        have t97 := zx_g59 hσ
        exact J127 0 (by omega) (by unfold zq_hid; omega)
      · show V 122 [some (ZR 0), some (ZI ((σ 0 59) - 1)), none, some (ZI (σ 35 ((σ 0 59) - 1))), some (ZI (σ 32 (σ 34 ((σ 0 59) - 1)))), some (ZI r68), some (ZI (σ 23 (σ 34 ((σ 0 59) - 1)))), some (ZI (σ 24 (σ 34 ((σ 0 59) - 1)))), some (ZI v0_110), none, none, none, none] [] 41 σ
        refine zr_iconst (pc := 122) hV 1 dX12_doJob_122 rfl ?_
        refine zr_goto (pc := 123) hV 127 dX12_doJob_123 (by decide) ?_
        have t98 := zx_g59 hσ
        exact J127 1 (by omega) (by unfold zq_hid; omega)
    have J109 : V 109 [some (ZR 0), some (ZI ((σ 0 59) - 1)), none, some (ZI (σ 35 ((σ 0 59) - 1))), some (ZI (σ 32 (σ 34 ((σ 0 59) - 1)))), some (ZI r68), some (ZI (σ 23 (σ 34 ((σ 0 59) - 1)))), some (ZI (σ 24 (σ 34 ((σ 0 59) - 1)))), none, none, none, none, none] [] 41 σ := by
      show V 109 [some (ZR 0), some (ZI ((σ 0 59) - 1)), none, some (ZI (σ 35 ((σ 0 59) - 1))), some (ZI (σ 32 (σ 34 ((σ 0 59) - 1)))), some (ZI r68), some (ZI (σ 23 (σ 34 ((σ 0 59) - 1)))), some (ZI (σ 24 (σ 34 ((σ 0 59) - 1)))), none, none, none, none, none] [] 41 σ
      refine zr_iconst (pc := 109) hV 0 dX12_doJob_109 rfl ?_
      exact J110 0 (by omega)
    refine zr_if_ne (pc := 96) hV 109 dX12_doJob_96 (by decide) (by omega) (fun c99 => ?_) (fun c99 => ?_)
    · refine zr_sub (pc := 109) hV [some (ZR 0), some (ZI ((σ 0 59) - 1)), none, some (ZI (σ 35 ((σ 0 59) - 1))), some (ZI (σ 32 (σ 34 ((σ 0 59) - 1)))), some (ZI r68), some (ZI (σ 23 (σ 34 ((σ 0 59) - 1)))), some (ZI (σ 24 (σ 34 ((σ 0 59) - 1)))), none, none, none, none, none] (⟨rfl, rfl, rfl, rfl, rfl, rfl, rfl, trivial⟩) ?_
      exact J109
    · show V 99 [some (ZR 0), some (ZI ((σ 0 59) - 1)), some (ZI (σ 34 ((σ 0 59) - 1))), some (ZI (σ 35 ((σ 0 59) - 1))), some (ZI (σ 32 (σ 34 ((σ 0 59) - 1)))), some (ZI r68), some (ZI (σ 23 (σ 34 ((σ 0 59) - 1)))), some (ZI (σ 24 (σ 34 ((σ 0 59) - 1)))), none, none, none, none, none] [] 41 σ
      refine zr_iload (pc := 99) hV dX12_doJob_99 rfl ?_
      refine zr_iconst (pc := 101) hV 5 dX12_doJob_101 rfl ?_
      refine zr_icmp_ge (pc := 102) hV 109 dX12_doJob_102 (by decide) (by omega) ⟨by decide, by decide⟩ (fun c100 => ?_) (fun c100 => ?_)
      · refine zr_sub (pc := 109) hV [some (ZR 0), some (ZI ((σ 0 59) - 1)), none, some (ZI (σ 35 ((σ 0 59) - 1))), some (ZI (σ 32 (σ 34 ((σ 0 59) - 1)))), some (ZI r68), some (ZI (σ 23 (σ 34 ((σ 0 59) - 1)))), some (ZI (σ 24 (σ 34 ((σ 0 59) - 1)))), none, none, none, none, none] (⟨rfl, rfl, rfl, rfl, rfl, rfl, rfl, trivial⟩) ?_
        exact J109
      · show V 105 [some (ZR 0), some (ZI ((σ 0 59) - 1)), some (ZI (σ 34 ((σ 0 59) - 1))), some (ZI (σ 35 ((σ 0 59) - 1))), some (ZI (σ 32 (σ 34 ((σ 0 59) - 1)))), some (ZI r68), some (ZI (σ 23 (σ 34 ((σ 0 59) - 1)))), some (ZI (σ 24 (σ 34 ((σ 0 59) - 1)))), none, none, none, none, none] [] 41 σ
        refine zr_iconst (pc := 105) hV 1 dX12_doJob_105 rfl ?_
        refine zr_goto (pc := 106) hV 110 dX12_doJob_106 (by decide) ?_
        refine zr_sub (pc := 110) hV [some (ZR 0), some (ZI ((σ 0 59) - 1)), none, some (ZI (σ 35 ((σ 0 59) - 1))), some (ZI (σ 32 (σ 34 ((σ 0 59) - 1)))), some (ZI r68), some (ZI (σ 23 (σ 34 ((σ 0 59) - 1)))), some (ZI (σ 24 (σ 34 ((σ 0 59) - 1)))), none, none, none, none, none] (⟨rfl, rfl, rfl, rfl, rfl, rfl, rfl, trivial⟩) ?_
        exact J110 1 (by omega)
  · show V 39 [some (ZR 0), some (ZI ((σ 0 59) - 1)), some (ZI (σ 34 ((σ 0 59) - 1))), some (ZI (σ 35 ((σ 0 59) - 1))), some (ZI (σ 32 (σ 34 ((σ 0 59) - 1)))), none, none, none, none, none, none, none, none] [] 41 σ
    have hp1 := zx_J_p1 q0 q2 q3 (by omega)
    refine zr_aload_n (pc := 39) hV dX12_doJob_39 rfl rfl ?_
    refine zr_iload (pc := 40) hV dX12_doJob_40 rfl ?_
    refine zr_iload_n (pc := 42) hV dX12_doJob_42 rfl rfl ?_
    refine zr_iconst (pc := 43) hV 0 dX12_doJob_43 rfl ?_
    refine zr_iconst (pc := 44) hV 0 dX12_doJob_44 rfl ?_
    refine zr_aload_n (pc := 45) hV dX12_doJob_45 rfl rfl ?_
    refine zr_getR (pc := 46) hV 39 22 dX12_doJob_46 fX12_90 rfl rfl rfl (by decide) (zx_g39 hσ) (by omega) ?_
    refine zr_iload_n (pc := 49) hV dX12_doJob_49 rfl rfl ?_
    refine zr_iald (pc := 50) hV dX12_doJob_50 rfl (by decide) rfl (by omega) ?_
    have t101 := zx_ga22 hσ (σ 34 ((σ 0 59) - 1))
    have t102 := zx_g54 hσ
    refine zr_callVv (pc := 51) hV [ZI (σ 32 (σ 34 ((σ 0 59) - 1))), ZI (σ 35 ((σ 0 59) - 1)), ZI 0, ZI 0, ZI (σ 22 (σ 34 ((σ 0 59) - 1)))] (st := []) (c_X12_emit2 (σ := σ) hσ (σ 32 (σ 34 ((σ 0 59) - 1))) (σ 35 ((σ 0 59) - 1)) 0 0 (σ 22 (σ 34 ((σ 0 59) - 1))) (by omega) (by omega) (by omega) (by omega) (by omega) (by omega) Bσ) dX12_doJob_51 mX12_452 rfl (by decide) (by decide) (Nat.le_of_ble_eq_true rfl) (Nat.le_refl _) (fun σ51 pσ51 => ?_)
    obtain ⟨hσ51, hfσ51, pσ51, Bσ51⟩ := pσ51
    have hFσ51 : ∀ a i : Int, (¬ (a = 0 ∧ i = 54) ∧ ¬ (a = 0 ∧ i = 55) ∧ ¬ (a = 0 ∧ i = 59) ∧ a ≠ 19 ∧ a ≠ 33 ∧ a ≠ 34 ∧ a ≠ 35 ∧ a ≠ 36) → σ51 a i = σ a i := fun a i h => (hfσ51 a i ⟨h.1, h.2.1, h.2.2.2.1, h.2.2.2.2.1⟩)
    have t103 := zx_g54 hσ
    have t104 := zx_g54 hσ51
    refine zr_aload_n (pc := 54) hV dX12_doJob_54 rfl rfl ?_
    refine zr_dup (pc := 55) hV dX12_doJob_55 (fun _ => rfl) ?_
    refine zr_getI (pc := 56) hV 59 dX12_doJob_56 fX12_449 rfl rfl rfl (by decide) ?_
    have t105 := zx_g59 hσ51
    have t106 : σ51 0 59 = σ 0 59 := hfσ51 _ _ (by omega)
    refine zr_iconst (pc := 59) hV 1 dX12_doJob_59 rfl ?_
    refine zr_isub (pc := 60) hV dX12_doJob_60 ?_
    refine zr_putI (pc := 61) hV 59 dX12_doJob_61 fX12_449 rfl rfl rfl rfl (by decide) (fun σ61 eσ61 => ?_)
    have hσ61 : zx_T σ61 := zx_u59 eσ61 hσ51 (by omega)
    have hFσ61 : ∀ a i : Int, (¬ (a = 0 ∧ i = 54) ∧ ¬ (a = 0 ∧ i = 55) ∧ ¬ (a = 0 ∧ i = 59) ∧ a ≠ 19 ∧ a ≠ 33 ∧ a ≠ 34 ∧ a ≠ 35 ∧ a ≠ 36) → σ61 a i = σ a i := fun a i h => by rw [eσ61, zq_up_ne h.2.2.1]; exact hFσ51 a i h
    have Bσ61 : zx_MB σ61 := zx_MB_fr (fun i => by rw [eσ61]; exact zq_up_ne (by omega)) (by rw [eσ61]; exact zq_up_ne (by omega)) (by rw [eσ61]; exact zq_up_ne (by omega)) Bσ51
    exact zr_vret (pc := 64) hV dX12_doJob_64 rfl rfl ⟨rfl, hσ61, hFσ61, trivial, (show ∃ p2, zx_J σ61 f p2 ∧ zx_mu σ61 p2 < zx_mu σ p from (zx_J_pop ⟨fun i => hFσ61 21 i (by omega), fun i => hFσ61 23 i (by omega), fun i => hFσ61 24 i (by omega), fun i => hFσ61 31 i (by omega), hFσ61 0 37 (by omega)⟩ q0 q2 q3 (by rw [eσ61, zq_up_same, hfσ51 0 59 (by omega)]) (fun i => by rw [eσ61, zq_up_ne (by omega)]; exact hfσ51 34 i (by omega)) (fun i h => by rw [eσ61, zq_up_ne (by omega)]; exact hfσ51 36 i (by omega)) (by omega) (by rw [eσ61, zq_up_ne (by omega)]; omega))), Bσ61⟩
