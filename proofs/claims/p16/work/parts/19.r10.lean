set_option maxHeartbeats 800000 in
theorem c_X12_leastMove {σ : zq_S} (hσ : zx_T σ)  : zq_C zx_w yX12_leastMove cX12_leastMove 3 (some .int) 4 94 41 41 [ZR 0] σ (zq_pp σ (fun r => -1 ≤ r ∧ r ≤ 19 ∧ r < σ 0 3 ∧ r = zx_lm σ (σ 0 3))) := by
  refine zq_C_of (by decide) (Nat.le_refl _) (Nat.le_of_ble_eq_true rfl) [some (ZR 0), none, none] rfl (fun V hV => ?_)
  have z0 := zx_lm_0 σ
  have z3 := zx_g3 hσ
  show V 0 [some (ZR 0), none, none] [] 41 σ
  refine zr_iconst (pc := 0) hV (-1) dX12_leastMove_0 rfl ?_
  refine zr_istore_n (pc := 1) hV [some (ZR 0), some (ZI (-1)), none] dX12_leastMove_1 rfl (by decide) rfl rfl ?_
  refine zr_iconst (pc := 2) hV 0 dX12_leastMove_2 rfl ?_
  refine zr_istore_n (pc := 3) hV [some (ZR 0), some (ZI (-1)), some (ZI 0)] dX12_leastMove_3 rfl (by decide) rfl rfl ?_
  have L4 : ∀ (fuel : Nat) (x1_4 : Int) (x2_4 : Int), ((-1) ≤ x1_4 ∧ x1_4 ≤ 19) → (0 ≤ x2_4 ∧ x2_4 ≤ 20) → (x1_4 = zx_lm σ x2_4) → (x1_4 < x2_4) → (x2_4 ≤ σ 0 3) → 20 - x2_4 < (fuel : Int) → V 4 [some (ZR 0), some (ZI x1_4), some (ZI x2_4)] [] 41 σ := by
    intro fuel
    induction fuel with
    | zero =>
      intro x1_4 x2_4 hx1_4 hx2_4 hi4_0 hi4_1 hi4_2 hm4
      exfalso; omega
    | succ fuel ih =>
      intro x1_4 x2_4 hx1_4 hx2_4 hi4_0 hi4_1 hi4_2 hm4
      have ih4 := ih
      show V 4 [some (ZR 0), some (ZI x1_4), some (ZI x2_4)] [] 41 σ
      refine zr_iload_n (pc := 4) hV dX12_leastMove_4 rfl rfl ?_
      refine zr_aload_n (pc := 5) hV dX12_leastMove_5 rfl rfl ?_
      refine zr_getI (pc := 6) hV 3 dX12_leastMove_6 fX12_150 rfl rfl rfl (by decide) ?_
      have t1 := zx_g3 hσ
      refine zr_icmp_ge (pc := 9) hV 52 dX12_leastMove_9 (by decide) (by omega) (by omega) (fun c2 => ?_) (fun c2 => ?_)
      · show V 52 [some (ZR 0), some (ZI x1_4), some (ZI x2_4)] [] 41 σ
        refine zr_iload_n (pc := 52) hV dX12_leastMove_52 rfl rfl ?_
        exact zr_iret (pc := 53) hV dX12_leastMove_53 rfl rfl ⟨rfl, _, rfl, (by omega), ⟨by omega, by omega, by omega, by rw [show σ 0 3 = x2_4 by omega]; exact hi4_0⟩⟩
      · show V 12 [some (ZR 0), some (ZI x1_4), some (ZI x2_4)] [] 41 σ
        have zl := zx_lm_s σ x2_4 (by omega)
        have zc : σ 7 (zx_lm σ x2_4) = σ 7 x1_4 := by rw [← hi4_0]
        refine zr_aload_n (pc := 12) hV dX12_leastMove_12 rfl rfl ?_
        refine zr_iload_n (pc := 13) hV dX12_leastMove_13 rfl rfl ?_
        refine zr_callVp (pc := 14) hV [ZI x2_4] (st := []) (c_X12_formOf (σ := σ) hσ x2_4 (by omega)) dX12_leastMove_14 mX12_428 rfl (by decide) (by decide) (Nat.le_of_ble_eq_true rfl) (Nat.le_refl _) (fun r14 hr14 pr14 => ?_)
        refine zr_iconst (pc := 17) hV 2 dX12_leastMove_17 rfl ?_
        refine zr_icmp_ne (pc := 18) hV 44 dX12_leastMove_18 (by decide) (by omega) ⟨by decide, by decide⟩ (fun c3 => ?_) (fun c3 => ?_)
        · show V 44 [some (ZR 0), some (ZI x1_4), some (ZI x2_4)] [] 41 σ
          refine zr_iload_n (pc := 44) hV dX12_leastMove_44 rfl rfl ?_
          show V 45 [some (ZR 0), some (ZI x1_4), some (ZI x2_4)] [ZI x1_4] 41 σ
          refine zr_istore_n (pc := 45) hV [some (ZR 0), some (ZI x1_4), some (ZI x2_4)] dX12_leastMove_45 rfl (by decide) rfl rfl ?_
          refine zr_iinc (pc := 46) hV [some (ZR 0), some (ZI x1_4), some (ZI (x2_4 + 1))] (x2_4 + 1) dX12_leastMove_46 rfl rfl (by decide) rfl rfl ?_
          refine zr_goto (pc := 49) hV 4 dX12_leastMove_49 (by decide) ?_
          have t4 := zx_g3 hσ
          exact ih4 x1_4 (x2_4 + 1) (by omega) (by omega) (by omega) (by omega) (by omega) (by omega)
        · show V 21 [some (ZR 0), some (ZI x1_4), some (ZI x2_4)] [] 41 σ
          refine zr_iload_n (pc := 21) hV dX12_leastMove_21 rfl rfl ?_
          refine zr_if_lt (pc := 22) hV 40 dX12_leastMove_22 (by decide) (by omega) (fun c5 => ?_) (fun c5 => ?_)
          · show V 40 [some (ZR 0), some (ZI x1_4), some (ZI x2_4)] [] 41 σ
            refine zr_iload_n (pc := 40) hV dX12_leastMove_40 rfl rfl ?_
            refine zr_goto (pc := 41) hV 45 dX12_leastMove_41 (by decide) ?_
            show V 45 [some (ZR 0), some (ZI x1_4), some (ZI x2_4)] [ZI x2_4] 41 σ
            refine zr_istore_n (pc := 45) hV [some (ZR 0), some (ZI x2_4), some (ZI x2_4)] dX12_leastMove_45 rfl (by decide) rfl rfl ?_
            refine zr_iinc (pc := 46) hV [some (ZR 0), some (ZI x2_4), some (ZI (x2_4 + 1))] (x2_4 + 1) dX12_leastMove_46 rfl rfl (by decide) rfl rfl ?_
            refine zr_goto (pc := 49) hV 4 dX12_leastMove_49 (by decide) ?_
            have t6 := zx_g3 hσ
            exact ih4 x2_4 (x2_4 + 1) (by omega) (by omega) (by omega) (by omega) (by omega) (by omega)
          · show V 25 [some (ZR 0), some (ZI x1_4), some (ZI x2_4)] [] 41 σ
            refine zr_aload_n (pc := 25) hV dX12_leastMove_25 rfl rfl ?_
            refine zr_getR (pc := 26) hV 10 7 dX12_leastMove_26 fX12_38 rfl rfl rfl (by decide) (zx_g10 hσ) (by omega) ?_
            refine zr_iload_n (pc := 29) hV dX12_leastMove_29 rfl rfl ?_
            refine zr_iald (pc := 30) hV dX12_leastMove_30 rfl (by decide) rfl (by omega) ?_
            have t7 := zx_ga7 hσ x2_4
            refine zr_aload_n (pc := 31) hV dX12_leastMove_31 rfl rfl ?_
            refine zr_getR (pc := 32) hV 10 7 dX12_leastMove_32 fX12_38 rfl rfl rfl (by decide) (zx_g10 hσ) (by omega) ?_
            refine zr_iload_n (pc := 35) hV dX12_leastMove_35 rfl rfl ?_
            refine zr_iald (pc := 36) hV dX12_leastMove_36 rfl (by decide) rfl (by omega) ?_
            have t8 := zx_ga7 hσ x1_4
            refine zr_icmp_ge (pc := 37) hV 44 dX12_leastMove_37 (by decide) (by omega) (by omega) (fun c9 => ?_) (fun c9 => ?_)
            · show V 44 [some (ZR 0), some (ZI x1_4), some (ZI x2_4)] [] 41 σ
              refine zr_iload_n (pc := 44) hV dX12_leastMove_44 rfl rfl ?_
              show V 45 [some (ZR 0), some (ZI x1_4), some (ZI x2_4)] [ZI x1_4] 41 σ
              refine zr_istore_n (pc := 45) hV [some (ZR 0), some (ZI x1_4), some (ZI x2_4)] dX12_leastMove_45 rfl (by decide) rfl rfl ?_
              refine zr_iinc (pc := 46) hV [some (ZR 0), some (ZI x1_4), some (ZI (x2_4 + 1))] (x2_4 + 1) dX12_leastMove_46 rfl rfl (by decide) rfl rfl ?_
              refine zr_goto (pc := 49) hV 4 dX12_leastMove_49 (by decide) ?_
              have t10 := zx_g3 hσ
              exact ih4 x1_4 (x2_4 + 1) (by omega) (by omega) (by omega) (by omega) (by omega) (by omega)
            · show V 40 [some (ZR 0), some (ZI x1_4), some (ZI x2_4)] [] 41 σ
              refine zr_iload_n (pc := 40) hV dX12_leastMove_40 rfl rfl ?_
              refine zr_goto (pc := 41) hV 45 dX12_leastMove_41 (by decide) ?_
              show V 45 [some (ZR 0), some (ZI x1_4), some (ZI x2_4)] [ZI x2_4] 41 σ
              refine zr_istore_n (pc := 45) hV [some (ZR 0), some (ZI x2_4), some (ZI x2_4)] dX12_leastMove_45 rfl (by decide) rfl rfl ?_
              refine zr_iinc (pc := 46) hV [some (ZR 0), some (ZI x2_4), some (ZI (x2_4 + 1))] (x2_4 + 1) dX12_leastMove_46 rfl rfl (by decide) rfl rfl ?_
              refine zr_goto (pc := 49) hV 4 dX12_leastMove_49 (by decide) ?_
              have t11 := zx_g3 hσ
              exact ih4 x2_4 (x2_4 + 1) (by omega) (by omega) (by omega) (by omega) (by omega) (by omega)
  have t12 := zx_g3 hσ
  exact L4 (20 - (0 : Int) + 1 : Int).toNat (-1) 0 (by omega) (by omega) (by omega) (by omega) (by omega) (by omega)
set_option maxHeartbeats 800000 in
theorem c_X12_emit {σ : zq_S} (hσ : zx_T σ) (o d s t i : Int) (q0 : 0 ≤ o ∧ o ≤ 20) (q1 : zq_in d) (q2 : zq_in s) (q3 : zq_in t) (q4 : zq_in i) (q5 : σ 0 54 < 80) : zq_C zx_w yX12_emit cX12_emit 7 (none) 2 53 41 41 [ZR 0, ZI o, ZI d, ZI s, ZI t, ZI i] σ (zq_pv (fun τ => zx_T τ ∧ (∀ a i : Int, (¬ (a = 0 ∧ i = 54) ∧ ¬ (a = 0 ∧ i = 55) ∧ a ≠ 19 ∧ a ≠ 33) → τ a i = σ a i) ∧ (τ 0 54 = σ 0 54 + 1))) := by
  refine zq_C_of (by decide) (Nat.le_refl _) (Nat.le_of_ble_eq_true rfl) [some (ZR 0), some (ZI o), some (ZI d), some (ZI s), some (ZI t), some (ZI i), none] rfl (fun V hV => ?_)
  show V 0 [some (ZR 0), some (ZI o), some (ZI d), some (ZI s), some (ZI t), some (ZI i), none] [] 41 σ
  refine zr_iconst (pc := 0) hV 1 dX12_emit_0 rfl ?_
  refine zr_aload_n (pc := 1) hV dX12_emit_1 rfl rfl ?_
  refine zr_getI (pc := 2) hV 1 dX12_emit_2 fX12_13 rfl rfl rfl (by decide) ?_
  have t1 := zx_g1 hσ
  refine zr_ishl (pc := 5) hV dX12_emit_5 ?_
  have t2 := zx_shl_one (y := σ 0 1) 3 8 (by decide) (by decide) (by omega)
  refine zr_istore (pc := 6) hV [some (ZR 0), some (ZI o), some (ZI d), some (ZI s), some (ZI t), some (ZI i), some (ZI (zq_shl 1 (σ 0 1)))] dX12_emit_6 (by decide) rfl rfl ?_
  refine zr_aload_n (pc := 8) hV dX12_emit_8 rfl rfl ?_
  refine zr_aload_n (pc := 9) hV dX12_emit_9 rfl rfl ?_
  refine zr_getI (pc := 10) hV 55 dX12_emit_10 fX12_443 rfl rfl rfl (by decide) ?_
  have t3 := zx_g55 hσ
  have J40 : ∀ (v0_40 : Int), (0 ≤ v0_40 ∧ v0_40 ≤ 1) → V 40 [some (ZR 0), some (ZI o), some (ZI d), some (ZI s), some (ZI t), some (ZI i), none] [ZI v0_40, ZR 0] 41 σ := by
    intro v0_40 hv0_40
    show V 40 [some (ZR 0), some (ZI o), some (ZI d), some (ZI s), some (ZI t), some (ZI i), none] [ZI v0_40, ZR 0] 41 σ
    refine zr_putZ (pc := 40) hV 55 dX12_emit_40 fX12_443 rfl rfl rfl (by omega) rfl (by decide) (fun σ40 eσ40 => ?_)
    have hσ40 : zx_T σ40 := zx_u55 eσ40 hσ (by omega)
    have hFσ40 : ∀ a i : Int, (¬ (a = 0 ∧ i = 54) ∧ ¬ (a = 0 ∧ i = 55) ∧ a ≠ 19 ∧ a ≠ 33) → σ40 a i = σ a i := fun a i h => by rw [eσ40, zq_up_ne h.2.1]
    refine zr_aload_n (pc := 43) hV dX12_emit_43 rfl rfl ?_
    refine zr_getR (pc := 44) hV 32 19 dX12_emit_44 fX12_78 rfl rfl rfl (by decide) (zx_g32 hσ40) (by omega) ?_
    refine zr_iconst (pc := 47) hV 0 dX12_emit_47 rfl ?_
    refine zr_iload_n (pc := 48) hV dX12_emit_48 rfl rfl ?_
    refine zr_iast (pc := 49) hV dX12_emit_49 rfl (by decide) rfl (by omega) (fun σ49 eσ49 => ?_)
    have hσ49 : zx_T σ49 := zx_ua19 eσ49 hσ40 (by omega)
    have hFσ49 : ∀ a i : Int, (¬ (a = 0 ∧ i = 54) ∧ ¬ (a = 0 ∧ i = 55) ∧ a ≠ 19 ∧ a ≠ 33) → σ49 a i = σ a i := fun a i h => by rw [eσ49, zq_up_ne (fun q => h.2.2.1 q.1)]; exact hFσ40 a i h
    refine zr_aload_n (pc := 50) hV dX12_emit_50 rfl rfl ?_
    refine zr_getR (pc := 51) hV 32 19 dX12_emit_51 fX12_78 rfl rfl rfl (by decide) (zx_g32 hσ49) (by omega) ?_
    refine zr_iconst (pc := 54) hV 1 dX12_emit_54 rfl ?_
    refine zr_iload_n (pc := 55) hV dX12_emit_55 rfl rfl ?_
    refine zr_iast (pc := 56) hV dX12_emit_56 rfl (by decide) rfl (by omega) (fun σ56 eσ56 => ?_)
    have hσ56 : zx_T σ56 := zx_ua19 eσ56 hσ49 (by omega)
    have hFσ56 : ∀ a i : Int, (¬ (a = 0 ∧ i = 54) ∧ ¬ (a = 0 ∧ i = 55) ∧ a ≠ 19 ∧ a ≠ 33) → σ56 a i = σ a i := fun a i h => by rw [eσ56, zq_up_ne (fun q => h.2.2.1 q.1)]; exact hFσ49 a i h
    refine zr_aload_n (pc := 57) hV dX12_emit_57 rfl rfl ?_
    refine zr_getR (pc := 58) hV 32 19 dX12_emit_58 fX12_78 rfl rfl rfl (by decide) (zx_g32 hσ56) (by omega) ?_
    refine zr_iconst (pc := 61) hV 2 dX12_emit_61 rfl ?_
    refine zr_iload (pc := 62) hV dX12_emit_62 rfl ?_
    refine zr_iast (pc := 64) hV dX12_emit_64 rfl (by decide) rfl (by omega) (fun σ64 eσ64 => ?_)
    have hσ64 : zx_T σ64 := zx_ua19 eσ64 hσ56 (by omega)
    have hFσ64 : ∀ a i : Int, (¬ (a = 0 ∧ i = 54) ∧ ¬ (a = 0 ∧ i = 55) ∧ a ≠ 19 ∧ a ≠ 33) → σ64 a i = σ a i := fun a i h => by rw [eσ64, zq_up_ne (fun q => h.2.2.1 q.1)]; exact hFσ56 a i h
    refine zr_aload_n (pc := 65) hV dX12_emit_65 rfl rfl ?_
    refine zr_getR (pc := 66) hV 32 19 dX12_emit_66 fX12_78 rfl rfl rfl (by decide) (zx_g32 hσ64) (by omega) ?_
    refine zr_iconst (pc := 69) hV 3 dX12_emit_69 rfl ?_
    refine zr_iload (pc := 70) hV dX12_emit_70 rfl ?_
    refine zr_iast (pc := 72) hV dX12_emit_72 rfl (by decide) rfl (by omega) (fun σ72 eσ72 => ?_)
    have hσ72 : zx_T σ72 := zx_ua19 eσ72 hσ64 (by omega)
    have hFσ72 : ∀ a i : Int, (¬ (a = 0 ∧ i = 54) ∧ ¬ (a = 0 ∧ i = 55) ∧ a ≠ 19 ∧ a ≠ 33) → σ72 a i = σ a i := fun a i h => by rw [eσ72, zq_up_ne (fun q => h.2.2.1 q.1)]; exact hFσ64 a i h
    refine zr_aload_n (pc := 73) hV dX12_emit_73 rfl rfl ?_
    refine zr_getR (pc := 74) hV 53 33 dX12_emit_74 fX12_123 rfl rfl rfl (by decide) (zx_g53 hσ72) (by omega) ?_
    refine zr_aload_n (pc := 77) hV dX12_emit_77 rfl rfl ?_
    refine zr_getI (pc := 78) hV 54 dX12_emit_78 fX12_446 rfl rfl rfl (by decide) ?_
    have t4 := zx_g54 hσ72
    have t5 : σ72 0 54 = σ64 0 54 := by rw [eσ72]; exact zq_up_ne (by omega)
    have t6 : σ64 0 54 = σ56 0 54 := by rw [eσ64]; exact zq_up_ne (by omega)
    have t7 : σ56 0 54 = σ49 0 54 := by rw [eσ56]; exact zq_up_ne (by omega)
    have t8 : σ49 0 54 = σ40 0 54 := by rw [eσ49]; exact zq_up_ne (by omega)
    have t9 : σ40 0 54 = σ 0 54 := by rw [eσ40]; exact zq_up_ne (by omega)
    refine zr_aload_n (pc := 81) hV dX12_emit_81 rfl rfl ?_
    refine zr_iload_n (pc := 82) hV dX12_emit_82 rfl rfl ?_
    refine zr_callVp (pc := 83) hV [ZI o] (st := [ZI (σ72 0 54), ZR 33]) (c_X12_bitsOf (σ := σ72) hσ72 o (by omega)) dX12_emit_83 mX12_393 rfl (by decide) (by decide) (Nat.le_of_ble_eq_true rfl) (Nat.le_refl _) (fun r83 hr83 pr83 => ?_)
    have t10 := zx_g2 hσ72
    have t11 : σ72 0 2 = σ64 0 2 := by rw [eσ72]; exact zq_up_ne (by omega)
    have t12 : σ64 0 2 = σ56 0 2 := by rw [eσ64]; exact zq_up_ne (by omega)
    have t13 : σ56 0 2 = σ49 0 2 := by rw [eσ56]; exact zq_up_ne (by omega)
    have t14 : σ49 0 2 = σ40 0 2 := by rw [eσ49]; exact zq_up_ne (by omega)
    have t15 : σ40 0 2 = σ 0 2 := by rw [eσ40]; exact zq_up_ne (by omega)
    refine zr_iast (pc := 86) hV dX12_emit_86 rfl (by decide) rfl (by omega) (fun σ86 eσ86 => ?_)
    have hσ86 : zx_T σ86 := zx_ua33 eσ86 hσ72 (by omega)
    have hFσ86 : ∀ a i : Int, (¬ (a = 0 ∧ i = 54) ∧ ¬ (a = 0 ∧ i = 55) ∧ a ≠ 19 ∧ a ≠ 33) → σ86 a i = σ a i := fun a i h => by rw [eσ86, zq_up_ne (fun q => h.2.2.2 q.1)]; exact hFσ72 a i h
    refine zr_aload_n (pc := 87) hV dX12_emit_87 rfl rfl ?_
    refine zr_dup (pc := 88) hV dX12_emit_88 (fun _ => rfl) ?_
    refine zr_getI (pc := 89) hV 54 dX12_emit_89 fX12_446 rfl rfl rfl (by decide) ?_
    have t16 := zx_g54 hσ86
    have t17 : σ86 0 54 = σ72 0 54 := by rw [eσ86]; exact zq_up_ne (by omega)
    have t18 : σ72 0 54 = σ64 0 54 := by rw [eσ72]; exact zq_up_ne (by omega)
    have t19 : σ64 0 54 = σ56 0 54 := by rw [eσ64]; exact zq_up_ne (by omega)
    have t20 : σ56 0 54 = σ49 0 54 := by rw [eσ56]; exact zq_up_ne (by omega)
    have t21 : σ49 0 54 = σ40 0 54 := by rw [eσ49]; exact zq_up_ne (by omega)
    have t22 : σ40 0 54 = σ 0 54 := by rw [eσ40]; exact zq_up_ne (by omega)
    refine zr_iconst (pc := 92) hV 1 dX12_emit_92 rfl ?_
    refine zr_iadd (pc := 93) hV dX12_emit_93 ?_
    refine zr_putI (pc := 94) hV 54 dX12_emit_94 fX12_446 rfl rfl rfl rfl (by decide) (fun σ94 eσ94 => ?_)
    have hσ94 : zx_T σ94 := zx_u54 eσ94 hσ86 (by omega)
    have hFσ94 : ∀ a i : Int, (¬ (a = 0 ∧ i = 54) ∧ ¬ (a = 0 ∧ i = 55) ∧ a ≠ 19 ∧ a ≠ 33) → σ94 a i = σ a i := fun a i h => by rw [eσ94, zq_up_ne h.1]; exact hFσ86 a i h
    have t23 := zx_g54 hσ94
    have t24 : σ94 0 54 = (σ86 0 54) + 1 := by rw [eσ94]; exact zq_up_same _ _ _ _
    exact zr_vret (pc := 97) hV dX12_emit_97 rfl rfl ⟨rfl, hσ94, hFσ94, (by omega)⟩
  have J39 : V 39 [some (ZR 0), some (ZI o), some (ZI d), some (ZI s), some (ZI t), some (ZI i), none] [ZR 0] 41 σ := by
    show V 39 [some (ZR 0), some (ZI o), some (ZI d), some (ZI s), some (ZI t), some (ZI i), none] [ZR 0] 41 σ
    refine zr_iconst (pc := 39) hV 0 dX12_emit_39 rfl ?_
    exact J40 0 (by omega)
  refine zr_if_eq (pc := 13) hV 39 dX12_emit_13 (by decide) (by omega) (fun c25 => ?_) (fun c25 => ?_)
  · refine zr_sub (pc := 39) hV [some (ZR 0), some (ZI o), some (ZI d), some (ZI s), some (ZI t), some (ZI i), none] (⟨rfl, rfl, rfl, rfl, rfl, rfl, trivial⟩) ?_
    exact J39
  · show V 16 [some (ZR 0), some (ZI o), some (ZI d), some (ZI s), some (ZI t), some (ZI i), some (ZI (zq_shl 1 (σ 0 1)))] [ZR 0] 41 σ
    refine zr_iload_n (pc := 16) hV dX12_emit_16 rfl rfl ?_
    refine zr_iload (pc := 17) hV dX12_emit_17 rfl ?_
    refine zr_icmp_ge (pc := 19) hV 39 dX12_emit_19 (by decide) (by omega) (by omega) (fun c26 => ?_) (fun c26 => ?_)
    · refine zr_sub (pc := 39) hV [some (ZR 0), some (ZI o), some (ZI d), some (ZI s), some (ZI t), some (ZI i), none] (⟨rfl, rfl, rfl, rfl, rfl, rfl, trivial⟩) ?_
      exact J39
    · show V 22 [some (ZR 0), some (ZI o), some (ZI d), some (ZI s), some (ZI t), some (ZI i), some (ZI (zq_shl 1 (σ 0 1)))] [ZR 0] 41 σ
      refine zr_iload_n (pc := 22) hV dX12_emit_22 rfl rfl ?_
      refine zr_iload (pc := 23) hV dX12_emit_23 rfl ?_
      refine zr_icmp_ge (pc := 25) hV 39 dX12_emit_25 (by decide) (by omega) (by omega) (fun c27 => ?_) (fun c27 => ?_)
      · refine zr_sub (pc := 39) hV [some (ZR 0), some (ZI o), some (ZI d), some (ZI s), some (ZI t), some (ZI i), none] (⟨rfl, rfl, rfl, rfl, rfl, rfl, trivial⟩) ?_
        exact J39
      · show V 28 [some (ZR 0), some (ZI o), some (ZI d), some (ZI s), some (ZI t), some (ZI i), some (ZI (zq_shl 1 (σ 0 1)))] [ZR 0] 41 σ
        refine zr_iload (pc := 28) hV dX12_emit_28 rfl ?_
        refine zr_iload (pc := 30) hV dX12_emit_30 rfl ?_
        refine zr_icmp_ge (pc := 32) hV 39 dX12_emit_32 (by decide) (by omega) (by omega) (fun c28 => ?_) (fun c28 => ?_)
        · refine zr_sub (pc := 39) hV [some (ZR 0), some (ZI o), some (ZI d), some (ZI s), some (ZI t), some (ZI i), none] (⟨rfl, rfl, rfl, rfl, rfl, rfl, trivial⟩) ?_
          exact J39
        · show V 35 [some (ZR 0), some (ZI o), some (ZI d), some (ZI s), some (ZI t), some (ZI i), some (ZI (zq_shl 1 (σ 0 1)))] [ZR 0] 41 σ
          refine zr_iconst (pc := 35) hV 1 dX12_emit_35 rfl ?_
          refine zr_goto (pc := 36) hV 40 dX12_emit_36 (by decide) ?_
          refine zr_sub (pc := 40) hV [some (ZR 0), some (ZI o), some (ZI d), some (ZI s), some (ZI t), some (ZI i), none] (⟨rfl, rfl, rfl, rfl, rfl, rfl, trivial⟩) ?_
          exact J40 1 (by omega)
set_option maxHeartbeats 800000 in
theorem c_X12_addJob {σ : zq_S} (hσ : zx_T σ) (node to : Int) (q0 : 0 ≤ node ∧ node ≤ 39) (q1 : zq_in to) (q2 : σ 0 59 < 44) : zq_C zx_w yX12_addJob cX12_addJob 3 (none) 0 0 41 41 [ZR 0, ZI node, ZI to] σ (zq_pv (fun τ => zx_T τ ∧ (∀ a i : Int, (¬ (a = 0 ∧ i = 59) ∧ a ≠ 34 ∧ a ≠ 35 ∧ a ≠ 36) → τ a i = σ a i) ∧ (τ 0 59 = σ 0 59 + 1))) := by
  refine zq_C_of (by decide) (Nat.le_refl _) (Nat.le_of_ble_eq_true rfl) [some (ZR 0), some (ZI node), some (ZI to)] rfl (fun V hV => ?_)
  show V 0 [some (ZR 0), some (ZI node), some (ZI to)] [] 41 σ
  refine zr_aload_n (pc := 0) hV dX12_addJob_0 rfl rfl ?_
  refine zr_getR (pc := 1) hV 56 34 dX12_addJob_1 fX12_126 rfl rfl rfl (by decide) (zx_g56 hσ) (by omega) ?_
  refine zr_aload_n (pc := 4) hV dX12_addJob_4 rfl rfl ?_
  refine zr_getI (pc := 5) hV 59 dX12_addJob_5 fX12_449 rfl rfl rfl (by decide) ?_
  have t1 := zx_g59 hσ
  refine zr_iload_n (pc := 8) hV dX12_addJob_8 rfl rfl ?_
  refine zr_iast (pc := 9) hV dX12_addJob_9 rfl (by decide) rfl (by omega) (fun σ9 eσ9 => ?_)
  have hσ9 : zx_T σ9 := zx_ua34 eσ9 hσ (by omega)
  have hFσ9 : ∀ a i : Int, (¬ (a = 0 ∧ i = 59) ∧ a ≠ 34 ∧ a ≠ 35 ∧ a ≠ 36) → σ9 a i = σ a i := fun a i h => by rw [eσ9, zq_up_ne (fun q => h.2.1 q.1)]
  refine zr_aload_n (pc := 10) hV dX12_addJob_10 rfl rfl ?_
  refine zr_getR (pc := 11) hV 57 35 dX12_addJob_11 fX12_129 rfl rfl rfl (by decide) (zx_g57 hσ9) (by omega) ?_
  refine zr_aload_n (pc := 14) hV dX12_addJob_14 rfl rfl ?_
  refine zr_getI (pc := 15) hV 59 dX12_addJob_15 fX12_449 rfl rfl rfl (by decide) ?_
  have t2 := zx_g59 hσ9
  have t3 : σ9 0 59 = σ 0 59 := by rw [eσ9]; exact zq_up_ne (by omega)
  refine zr_iload_n (pc := 18) hV dX12_addJob_18 rfl rfl ?_
  refine zr_iast (pc := 19) hV dX12_addJob_19 rfl (by decide) rfl (by omega) (fun σ19 eσ19 => ?_)
  have hσ19 : zx_T σ19 := zx_ua35 eσ19 hσ9 (by omega)
  have hFσ19 : ∀ a i : Int, (¬ (a = 0 ∧ i = 59) ∧ a ≠ 34 ∧ a ≠ 35 ∧ a ≠ 36) → σ19 a i = σ a i := fun a i h => by rw [eσ19, zq_up_ne (fun q => h.2.2.1 q.1)]; exact hFσ9 a i h
  refine zr_aload_n (pc := 20) hV dX12_addJob_20 rfl rfl ?_
  refine zr_getR (pc := 21) hV 58 36 dX12_addJob_21 fX12_132 rfl rfl rfl (by decide) (zx_g58 hσ19) (by omega) ?_
  refine zr_aload_n (pc := 24) hV dX12_addJob_24 rfl rfl ?_
  refine zr_getI (pc := 25) hV 59 dX12_addJob_25 fX12_449 rfl rfl rfl (by decide) ?_
  have t4 := zx_g59 hσ19
  have t5 : σ19 0 59 = σ9 0 59 := by rw [eσ19]; exact zq_up_ne (by omega)
  have t6 : σ9 0 59 = σ 0 59 := by rw [eσ9]; exact zq_up_ne (by omega)
  refine zr_iconst (pc := 28) hV 0 dX12_addJob_28 rfl ?_
  refine zr_iast (pc := 29) hV dX12_addJob_29 rfl (by decide) rfl (by omega) (fun σ29 eσ29 => ?_)
  have hσ29 : zx_T σ29 := zx_ua36 eσ29 hσ19 (by omega)
  have hFσ29 : ∀ a i : Int, (¬ (a = 0 ∧ i = 59) ∧ a ≠ 34 ∧ a ≠ 35 ∧ a ≠ 36) → σ29 a i = σ a i := fun a i h => by rw [eσ29, zq_up_ne (fun q => h.2.2.2 q.1)]; exact hFσ19 a i h
  refine zr_aload_n (pc := 30) hV dX12_addJob_30 rfl rfl ?_
  refine zr_dup (pc := 31) hV dX12_addJob_31 (fun _ => rfl) ?_
  refine zr_getI (pc := 32) hV 59 dX12_addJob_32 fX12_449 rfl rfl rfl (by decide) ?_
  have t7 := zx_g59 hσ29
  have t8 : σ29 0 59 = σ19 0 59 := by rw [eσ29]; exact zq_up_ne (by omega)
  have t9 : σ19 0 59 = σ9 0 59 := by rw [eσ19]; exact zq_up_ne (by omega)
  have t10 : σ9 0 59 = σ 0 59 := by rw [eσ9]; exact zq_up_ne (by omega)
  refine zr_iconst (pc := 35) hV 1 dX12_addJob_35 rfl ?_
  refine zr_iadd (pc := 36) hV dX12_addJob_36 ?_
  refine zr_putI (pc := 37) hV 59 dX12_addJob_37 fX12_449 rfl rfl rfl rfl (by decide) (fun σ37 eσ37 => ?_)
  have hσ37 : zx_T σ37 := zx_u59 eσ37 hσ29 (by omega)
  have hFσ37 : ∀ a i : Int, (¬ (a = 0 ∧ i = 59) ∧ a ≠ 34 ∧ a ≠ 35 ∧ a ≠ 36) → σ37 a i = σ a i := fun a i h => by rw [eσ37, zq_up_ne h.1]; exact hFσ29 a i h
  have t11 := zx_g59 hσ37
  have t12 : σ37 0 59 = (σ29 0 59) + 1 := by rw [eσ37]; exact zq_up_same _ _ _ _
  exact zr_vret (pc := 40) hV dX12_addJob_40 rfl rfl ⟨rfl, hσ37, hFσ37, (by omega)⟩
