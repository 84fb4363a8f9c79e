set_option maxHeartbeats 800000 in
theorem c_X12_addNode2 {σ : zq_S} (hσ : zx_T σ) (kind value left right : Int) (q0 : 0 ≤ kind ∧ kind ≤ 2) (q1 : 0 ≤ value ∧ value ≤ 255) (q2 : 0 ≤ left ∧ left ≤ 39) (q3 : 0 ≤ right ∧ right ≤ 39) (q4 : σ 0 43 < 40) : zq_C zx_w yX12_addNode cX12_addNode 5 (some .int) 0 0 41 41 [ZR 0, ZI kind, ZI value, ZI left, ZI right] σ (zq_pi (fun r τ => zx_T τ ∧ (∀ a i : Int, (¬ (a = 0 ∧ i = 43) ∧ ¬ (a = 25 ∧ i = σ 0 43) ∧ ¬ (a = 26 ∧ i = σ 0 43) ∧ ¬ (a = 27 ∧ i = σ 0 43) ∧ ¬ (a = 28 ∧ i = σ 0 43)) → τ a i = σ a i) ∧ (r = σ 0 43 ∧ τ 0 43 = σ 0 43 + 1 ∧ τ 25 (σ 0 43) = kind ∧ τ 27 (σ 0 43) = left ∧ τ 28 (σ 0 43) = right))) := by
  refine zq_C_of (by decide) (Nat.le_refl _) (Nat.le_of_ble_eq_true rfl) [some (ZR 0), some (ZI kind), some (ZI value), some (ZI left), some (ZI right)] rfl (fun V hV => ?_)
  show V 0 [some (ZR 0), some (ZI kind), some (ZI value), some (ZI left), some (ZI right)] [] 41 σ
  refine zr_aload_n (pc := 0) hV dX12_addNode_0 rfl rfl ?_
  refine zr_getR (pc := 1) hV 45 25 dX12_addNode_1 fX12_99 rfl rfl rfl (by decide) (zx_g45 hσ) (by omega) ?_
  refine zr_aload_n (pc := 4) hV dX12_addNode_4 rfl rfl ?_
  refine zr_getI (pc := 5) hV 43 dX12_addNode_5 fX12_406 rfl rfl rfl (by decide) ?_
  have t1 := zx_g43 hσ
  refine zr_iload_n (pc := 8) hV dX12_addNode_8 rfl rfl ?_
  refine zr_iast (pc := 9) hV dX12_addNode_9 rfl (by decide) rfl (by omega) (fun σ9 eσ9 => ?_)
  have hσ9 : zx_T σ9 := zx_ua25 eσ9 hσ (by omega)
  have hFσ9 : ∀ a i : Int, (¬ (a = 0 ∧ i = 43) ∧ ¬ (a = 25 ∧ i = σ 0 43) ∧ ¬ (a = 26 ∧ i = σ 0 43) ∧ ¬ (a = 27 ∧ i = σ 0 43) ∧ ¬ (a = 28 ∧ i = σ 0 43)) → σ9 a i = σ a i := fun a i h => by rw [eσ9, zq_up_ne (fun q => h.2.1 ⟨q.1, by omega⟩)]
  refine zr_aload_n (pc := 10) hV dX12_addNode_10 rfl rfl ?_
  refine zr_getR (pc := 11) hV 46 26 dX12_addNode_11 fX12_102 rfl rfl rfl (by decide) (zx_g46 hσ9) (by omega) ?_
  refine zr_aload_n (pc := 14) hV dX12_addNode_14 rfl rfl ?_
  refine zr_getI (pc := 15) hV 43 dX12_addNode_15 fX12_406 rfl rfl rfl (by decide) ?_
  have t2 := zx_g43 hσ9
  have t3 : σ9 0 43 = σ 0 43 := by rw [eσ9]; exact zq_up_ne (by omega)
  refine zr_iload_n (pc := 18) hV dX12_addNode_18 rfl rfl ?_
  refine zr_iast (pc := 19) hV dX12_addNode_19 rfl (by decide) rfl (by omega) (fun σ19 eσ19 => ?_)
  have hσ19 : zx_T σ19 := zx_ua26 eσ19 hσ9 (by omega)
  have hFσ19 : ∀ a i : Int, (¬ (a = 0 ∧ i = 43) ∧ ¬ (a = 25 ∧ i = σ 0 43) ∧ ¬ (a = 26 ∧ i = σ 0 43) ∧ ¬ (a = 27 ∧ i = σ 0 43) ∧ ¬ (a = 28 ∧ i = σ 0 43)) → σ19 a i = σ a i := fun a i h => by rw [eσ19, zq_up_ne (fun q => h.2.2.1 ⟨q.1, by omega⟩)]; exact hFσ9 a i h
  refine zr_aload_n (pc := 20) hV dX12_addNode_20 rfl rfl ?_
  refine zr_getR (pc := 21) hV 47 27 dX12_addNode_21 fX12_105 rfl rfl rfl (by decide) (zx_g47 hσ19) (by omega) ?_
  refine zr_aload_n (pc := 24) hV dX12_addNode_24 rfl rfl ?_
  refine zr_getI (pc := 25) hV 43 dX12_addNode_25 fX12_406 rfl rfl rfl (by decide) ?_
  have t4 := zx_g43 hσ19
  have t5 : σ19 0 43 = σ9 0 43 := by rw [eσ19]; exact zq_up_ne (by omega)
  have t6 : σ9 0 43 = σ 0 43 := by rw [eσ9]; exact zq_up_ne (by omega)
  refine zr_iload_n (pc := 28) hV dX12_addNode_28 rfl rfl ?_
  refine zr_iast (pc := 29) hV dX12_addNode_29 rfl (by decide) rfl (by omega) (fun σ29 eσ29 => ?_)
  have hσ29 : zx_T σ29 := zx_ua27 eσ29 hσ19 (by omega)
  have hFσ29 : ∀ a i : Int, (¬ (a = 0 ∧ i = 43) ∧ ¬ (a = 25 ∧ i = σ 0 43) ∧ ¬ (a = 26 ∧ i = σ 0 43) ∧ ¬ (a = 27 ∧ i = σ 0 43) ∧ ¬ (a = 28 ∧ i = σ 0 43)) → σ29 a i = σ a i := fun a i h => by rw [eσ29, zq_up_ne (fun q => h.2.2.2.1 ⟨q.1, by omega⟩)]; exact hFσ19 a i h
  refine zr_aload_n (pc := 30) hV dX12_addNode_30 rfl rfl ?_
  refine zr_getR (pc := 31) hV 48 28 dX12_addNode_31 fX12_108 rfl rfl rfl (by decide) (zx_g48 hσ29) (by omega) ?_
  refine zr_aload_n (pc := 34) hV dX12_addNode_34 rfl rfl ?_
  refine zr_getI (pc := 35) hV 43 dX12_addNode_35 fX12_406 rfl rfl rfl (by decide) ?_
  have t7 := zx_g43 hσ29
  have t8 : σ29 0 43 = σ19 0 43 := by rw [eσ29]; exact zq_up_ne (by omega)
  have t9 : σ19 0 43 = σ9 0 43 := by rw [eσ19]; exact zq_up_ne (by omega)
  have t10 : σ9 0 43 = σ 0 43 := by rw [eσ9]; exact zq_up_ne (by omega)
  refine zr_iload (pc := 38) hV dX12_addNode_38 rfl ?_
  refine zr_iast (pc := 40) hV dX12_addNode_40 rfl (by decide) rfl (by omega) (fun σ40 eσ40 => ?_)
  have hσ40 : zx_T σ40 := zx_ua28 eσ40 hσ29 (by omega)
  have hFσ40 : ∀ a i : Int, (¬ (a = 0 ∧ i = 43) ∧ ¬ (a = 25 ∧ i = σ 0 43) ∧ ¬ (a = 26 ∧ i = σ 0 43) ∧ ¬ (a = 27 ∧ i = σ 0 43) ∧ ¬ (a = 28 ∧ i = σ 0 43)) → σ40 a i = σ a i := fun a i h => by rw [eσ40, zq_up_ne (fun q => h.2.2.2.2 ⟨q.1, by omega⟩)]; exact hFσ29 a i h
  refine zr_aload_n (pc := 41) hV dX12_addNode_41 rfl rfl ?_
  refine zr_dup (pc := 42) hV dX12_addNode_42 (fun _ => rfl) ?_
  refine zr_getI (pc := 43) hV 43 dX12_addNode_43 fX12_406 rfl rfl rfl (by decide) ?_
  have t11 := zx_g43 hσ40
  have t12 : σ40 0 43 = σ29 0 43 := by rw [eσ40]; exact zq_up_ne (by omega)
  have t13 : σ29 0 43 = σ19 0 43 := by rw [eσ29]; exact zq_up_ne (by omega)
  have t14 : σ19 0 43 = σ9 0 43 := by rw [eσ19]; exact zq_up_ne (by omega)
  have t15 : σ9 0 43 = σ 0 43 := by rw [eσ9]; exact zq_up_ne (by omega)
  refine zr_iconst (pc := 46) hV 1 dX12_addNode_46 rfl ?_
  refine zr_iadd (pc := 47) hV dX12_addNode_47 ?_
  refine zr_putI (pc := 48) hV 43 dX12_addNode_48 fX12_406 rfl rfl rfl rfl (by decide) (fun σ48 eσ48 => ?_)
  have hσ48 : zx_T σ48 := zx_u43 eσ48 hσ40 (by omega)
  have hFσ48 : ∀ a i : Int, (¬ (a = 0 ∧ i = 43) ∧ ¬ (a = 25 ∧ i = σ 0 43) ∧ ¬ (a = 26 ∧ i = σ 0 43) ∧ ¬ (a = 27 ∧ i = σ 0 43) ∧ ¬ (a = 28 ∧ i = σ 0 43)) → σ48 a i = σ a i := fun a i h => by rw [eσ48, zq_up_ne h.1]; exact hFσ40 a i h
  have a25 : σ48 25 (σ 0 43) = kind := by rw [eσ48, zq_up_ne (by omega), eσ40, zq_up_ne (by omega), eσ29, zq_up_ne (by omega), eσ19, zq_up_ne (by omega), eσ9, zq_up_same]
  have a27 : σ48 27 (σ 0 43) = left := by rw [eσ48, zq_up_ne (by omega), eσ40, zq_up_ne (by omega), eσ29, show σ 0 43 = σ19 0 43 by omega, zq_up_same]
  have a28 : σ48 28 (σ 0 43) = right := by rw [eσ48, zq_up_ne (by omega), eσ40, show σ 0 43 = σ29 0 43 by omega, zq_up_same]
  refine zr_aload_n (pc := 51) hV dX12_addNode_51 rfl rfl ?_
  refine zr_getI (pc := 52) hV 43 dX12_addNode_52 fX12_406 rfl rfl rfl (by decide) ?_
  have t16 := zx_g43 hσ48
  have t17 : σ48 0 43 = (σ40 0 43) + 1 := by rw [eσ48]; exact zq_up_same _ _ _ _
  refine zr_iconst (pc := 55) hV 1 dX12_addNode_55 rfl ?_
  refine zr_isub (pc := 56) hV dX12_addNode_56 ?_
  have t18 := zx_g43 hσ48
  have t19 : σ48 0 43 = (σ40 0 43) + 1 := by rw [eσ48]; exact zq_up_same _ _ _ _
  exact zr_iret (pc := 57) hV dX12_addNode_57 rfl rfl ⟨_, rfl, (by omega), hσ48, hFσ48, ⟨by omega, by omega, a25, a27, a28⟩⟩
set_option maxHeartbeats 800000 in
theorem c_X12_readLeaf2 {σ : zq_S} (hσ : zx_T σ) (q0 : σ 0 43 ≤ 2 * σ 0 44) : zq_C zx_w yX12_readLeaf cX12_readLeaf 3 (some .int) 2 49 41 41 [ZR 0] σ (zq_pi (fun r τ => zx_T τ ∧ (∀ a i : Int, (¬ (a = 0 ∧ i = 15) ∧ ¬ (a = 0 ∧ i = 43) ∧ ¬ (a = 0 ∧ i = 44) ∧ ¬ (a = 25 ∧ i = σ 0 43) ∧ ¬ (a = 26 ∧ i = σ 0 43) ∧ ¬ (a = 27 ∧ i = σ 0 43) ∧ ¬ (a = 28 ∧ i = σ 0 43)) → τ a i = σ a i) ∧ (-1 ≤ r ∧ r ≤ 39 ∧ σ 0 15 ≤ τ 0 15) ∧ zq_hid (0 ≤ r → r = σ 0 43 ∧ τ 0 43 = σ 0 43 + 1 ∧ τ 0 44 = σ 0 44 + 1 ∧ σ 0 15 < τ 0 15 ∧ τ 25 (σ 0 43) ≠ 2))) := by
  refine zq_C_of (by decide) (Nat.le_refl _) (Nat.le_of_ble_eq_true rfl) [some (ZR 0), none, none] rfl (fun V hV => ?_)
  have z35 := zx_g35 hσ
  have z44 := zx_g44 hσ
  show V 0 [some (ZR 0), none, none] [] 41 σ
  refine zr_aload_n (pc := 0) hV dX12_readLeaf_0 rfl rfl ?_
  refine zr_callVi (pc := 1) hV [] (st := []) (c_X12_next (σ := σ) hσ ) dX12_readLeaf_1 mX12_203 rfl (by decide) (by decide) (Nat.le_of_ble_eq_true rfl) (Nat.le_refl _) (fun r1 σ1 hr1 pσ1 => ?_)
  obtain ⟨hσ1, hfσ1, pσ1, wσ1⟩ := pσ1
  have hFσ1 : ∀ a i : Int, (¬ (a = 0 ∧ i = 15) ∧ ¬ (a = 0 ∧ i = 43) ∧ ¬ (a = 0 ∧ i = 44) ∧ ¬ (a = 25 ∧ i = σ 0 43) ∧ ¬ (a = 26 ∧ i = σ 0 43) ∧ ¬ (a = 27 ∧ i = σ 0 43) ∧ ¬ (a = 28 ∧ i = σ 0 43)) → σ1 a i = σ a i := fun a i h => (hfσ1 a i h.1)
  have t1 := zx_g14 hσ
  have t2 := zx_g15 hσ
  have t3 := zx_g15 hσ1
  refine zr_istore_n (pc := 4) hV [some (ZR 0), some (ZI r1), none] dX12_readLeaf_4 rfl (by decide) rfl rfl ?_
  refine zr_iload_n (pc := 5) hV dX12_readLeaf_5 rfl rfl ?_
  refine zr_i2l (pc := 6) hV dX12_readLeaf_6 (by omega) ?_
  refine zr_ldc2 (pc := 7) (v := 97) hV 97 dX12_readLeaf_7 kX12_214 (by decide) ?_
  refine zr_bipush (pc := 10) hV 97 dX12_readLeaf_10 (by decide) ?_
  refine zr_aload_n (pc := 12) hV dX12_readLeaf_12 rfl rfl ?_
  refine zr_getI (pc := 13) hV 35 dX12_readLeaf_13 fX12_84 rfl rfl rfl (by decide) ?_
  have t4 := zx_g35 hσ1
  have t5 : σ1 0 35 = σ 0 35 := hfσ1 _ _ (by omega)
  refine zr_iadd (pc := 16) hV dX12_readLeaf_16 ?_
  refine zr_iconst (pc := 17) hV 1 dX12_readLeaf_17 rfl ?_
  refine zr_isub (pc := 18) hV dX12_readLeaf_18 ?_
  refine zr_i2l (pc := 19) hV dX12_readLeaf_19 (by omega) ?_
  refine zr_callSp (pc := 20) hV [ZL r1, ZL 97, ZL ((97 + (σ1 0 35)) - 1)] (st := []) (c_X12_in (σ := σ1) r1 97 ((97 + (σ1 0 35)) - 1) (by omega) (by omega) (by omega)) dX12_readLeaf_20 mX12_170 (by decide) (Nat.le_of_ble_eq_true rfl) (Nat.le_refl _) (fun r20 hr20 pr20 => ?_)
  have J40 : ((97 ≤ r1 ∧ r1 ≤ 96 + σ1 0 35) ∨ (48 ≤ r1 ∧ r1 ≤ 57)) → V 40 [some (ZR 0), some (ZI r1), none] [] 41 σ1 := by
    intro hi40_0
    show V 40 [some (ZR 0), some (ZI r1), none] [] 41 σ1
    refine zr_aload_n (pc := 40) hV dX12_readLeaf_40 rfl rfl ?_
    refine zr_getI (pc := 41) hV 44 dX12_readLeaf_41 fX12_409 rfl rfl rfl (by decide) ?_
    have t6 := zx_g44 hσ1
    have t7 : σ1 0 44 = σ 0 44 := hfσ1 _ _ (by omega)
    refine zr_bipush (pc := 44) hV 20 dX12_readLeaf_44 (by decide) ?_
    refine zr_icmp_ne (pc := 46) hV 51 dX12_readLeaf_46 (by decide) (by omega) ⟨by decide, by decide⟩ (fun c8 => ?_) (fun c8 => ?_)
    · show V 51 [some (ZR 0), some (ZI r1), none] [] 41 σ1
      refine zr_aload_n (pc := 51) hV dX12_readLeaf_51 rfl rfl ?_
      refine zr_dup (pc := 52) hV dX12_readLeaf_52 (fun _ => rfl) ?_
      refine zr_getI (pc := 53) hV 44 dX12_readLeaf_53 fX12_409 rfl rfl rfl (by decide) ?_
      have t9 := zx_g44 hσ1
      have t10 : σ1 0 44 = σ 0 44 := hfσ1 _ _ (by omega)
      refine zr_iconst (pc := 56) hV 1 dX12_readLeaf_56 rfl ?_
      refine zr_iadd (pc := 57) hV dX12_readLeaf_57 ?_
      refine zr_putI (pc := 58) hV 44 dX12_readLeaf_58 fX12_409 rfl rfl rfl rfl (by decide) (fun σ58 eσ58 => ?_)
      have hσ58 : zx_T σ58 := zx_u44 eσ58 hσ1 (by omega)
      have hFσ58 : ∀ a i : Int, (¬ (a = 0 ∧ i = 15) ∧ ¬ (a = 0 ∧ i = 43) ∧ ¬ (a = 0 ∧ i = 44) ∧ ¬ (a = 25 ∧ i = σ 0 43) ∧ ¬ (a = 26 ∧ i = σ 0 43) ∧ ¬ (a = 27 ∧ i = σ 0 43) ∧ ¬ (a = 28 ∧ i = σ 0 43)) → σ58 a i = σ a i := fun a i h => by rw [eσ58, zq_up_ne h.2.2.1]; exact hFσ1 a i h
      refine zr_iload_n (pc := 61) hV dX12_readLeaf_61 rfl rfl ?_
      refine zr_bipush (pc := 62) hV 97 dX12_readLeaf_62 (by decide) ?_
      refine zr_icmp_lt (pc := 64) hV 89 dX12_readLeaf_64 (by decide) (by omega) ⟨by decide, by decide⟩ (fun c11 => ?_) (fun c11 => ?_)
      · show V 89 [some (ZR 0), some (ZI r1), none] [] 41 σ58
        refine zr_aload_n (pc := 89) hV dX12_readLeaf_89 rfl rfl ?_
        refine zr_sipush (pc := 90) hV 255 dX12_readLeaf_90 (by decide) ?_
        refine zr_callVi (pc := 93) hV [ZI 255] (st := []) (c_X12_number (σ := σ58) hσ58 255 (by omega)) dX12_readLeaf_93 mX12_238 rfl (by decide) (by decide) (Nat.le_of_ble_eq_true rfl) (Nat.le_refl _) (fun r93 σ93 hr93 pσ93 => ?_)
        obtain ⟨hσ93, hfσ93, pσ93⟩ := pσ93
        have hFσ93 : ∀ a i : Int, (¬ (a = 0 ∧ i = 15) ∧ ¬ (a = 0 ∧ i = 43) ∧ ¬ (a = 0 ∧ i = 44) ∧ ¬ (a = 25 ∧ i = σ 0 43) ∧ ¬ (a = 26 ∧ i = σ 0 43) ∧ ¬ (a = 27 ∧ i = σ 0 43) ∧ ¬ (a = 28 ∧ i = σ 0 43)) → σ93 a i = σ a i := fun a i h => (hfσ93 a i h.1).trans (hFσ58 a i h)
        have t12 := zx_g15 hσ58
        have t13 : σ58 0 15 = σ1 0 15 := by rw [eσ58]; exact zq_up_ne (by omega)
        have t14 := zx_g15 hσ93
        refine zr_istore_n (pc := 96) hV [some (ZR 0), some (ZI r1), some (ZI r93)] dX12_readLeaf_96 rfl (by decide) rfl rfl ?_
        refine zr_iload_n (pc := 97) hV dX12_readLeaf_97 rfl rfl ?_
        refine zr_if_ge (pc := 98) hV 105 dX12_readLeaf_98 (by decide) (by omega) (fun c15 => ?_) (fun c15 => ?_)
        · show V 105 [some (ZR 0), some (ZI r1), some (ZI r93)] [] 41 σ93
          refine zr_aload_n (pc := 105) hV dX12_readLeaf_105 rfl rfl ?_
          refine zr_iconst (pc := 106) hV 1 dX12_readLeaf_106 rfl ?_
          refine zr_iload_n (pc := 107) hV dX12_readLeaf_107 rfl rfl ?_
          refine zr_aload_n (pc := 108) hV dX12_readLeaf_108 rfl rfl ?_
          refine zr_callVp (pc := 109) hV [] (st := [ZI r93, ZI 1, ZR 0]) (c_X12_mask (σ := σ93) hσ93 ) dX12_readLeaf_109 mX12_346 rfl (by decide) (by decide) (Nat.le_of_ble_eq_true rfl) (Nat.le_refl _) (fun r109 hr109 pr109 => ?_)
          refine zr_iand (pc := 112) hV dX12_readLeaf_112 ?_
          have t16 := zq_and_nnR (x := r93) (y := r109) (by omega)
          refine zr_iconst (pc := 113) hV 0 dX12_readLeaf_113 rfl ?_
          refine zr_iconst (pc := 114) hV 0 dX12_readLeaf_114 rfl ?_
          have t17 := zx_g43 hσ93
          have t18 : σ93 0 43 = σ58 0 43 := hfσ93 _ _ (by omega)
          have t19 : σ58 0 43 = σ1 0 43 := by rw [eσ58]; exact zq_up_ne (by omega)
          have t20 : σ1 0 43 = σ 0 43 := hfσ1 _ _ (by omega)
          refine zr_callVi (pc := 115) hV [ZI 1, ZI (zq_and r93 r109), ZI 0, ZI 0] (st := []) (c_X12_addNode2 (σ := σ93) hσ93 1 (zq_and r93 r109) 0 0 (by omega) (by omega) (by omega) (by omega) (by omega)) dX12_readLeaf_115 mX12_412 rfl (by decide) (by decide) (Nat.le_of_ble_eq_true rfl) (Nat.le_refl _) (fun r115 σ115 hr115 pσ115 => ?_)
          obtain ⟨hσ115, hfσ115, pσ115⟩ := pσ115
          have hFσ115 : ∀ a i : Int, (¬ (a = 0 ∧ i = 15) ∧ ¬ (a = 0 ∧ i = 43) ∧ ¬ (a = 0 ∧ i = 44) ∧ ¬ (a = 25 ∧ i = σ 0 43) ∧ ¬ (a = 26 ∧ i = σ 0 43) ∧ ¬ (a = 27 ∧ i = σ 0 43) ∧ ¬ (a = 28 ∧ i = σ 0 43)) → σ115 a i = σ a i := fun a i h => (hfσ115 a i ⟨h.2.1, (fun q => h.2.2.2.1 ⟨q.1, by omega⟩), (fun q => h.2.2.2.2.1 ⟨q.1, by omega⟩), (fun q => h.2.2.2.2.2.1 ⟨q.1, by omega⟩), (fun q => h.2.2.2.2.2.2 ⟨q.1, by omega⟩)⟩).trans (hFσ93 a i h)
          have t21 := zx_g43 hσ93
          have t22 : σ93 0 43 = σ58 0 43 := hfσ93 _ _ (by omega)
          have t23 : σ58 0 43 = σ1 0 43 := by rw [eσ58]; exact zq_up_ne (by omega)
          have t24 : σ1 0 43 = σ 0 43 := hfσ1 _ _ (by omega)
          have t25 := zx_g43 hσ115
          show V 118 [some (ZR 0), some (ZI r1), some (ZI r93)] [ZI r115] 41 σ115
          have k115 : σ115 25 (σ 0 43) = 1 := by rw [show σ 0 43 = σ93 0 43 by omega]; exact pσ115.2.2.1
          have t26 := zx_g15 hσ115
          have t27 : σ115 0 15 = σ93 0 15 := hfσ115 _ _ (by omega)
          have t28 := zx_g43 hσ115
          have t29 := zx_g44 hσ115
          have t30 : σ115 0 44 = σ93 0 44 := hfσ115 _ _ (by omega)
          have t31 : σ93 0 44 = σ58 0 44 := hfσ93 _ _ (by omega)
          have t32 : σ58 0 44 = (σ1 0 44) + 1 := by rw [eσ58]; exact zq_up_same _ _ _ _
          have t33 := zx_g15 hσ115
          have t34 : σ115 0 15 = σ93 0 15 := hfσ115 _ _ (by omega)
          exact zr_iret (pc := 118) hV dX12_readLeaf_118 rfl rfl ⟨_, rfl, (by omega), hσ115, hFσ115, (by omega), (show 0 ≤ r115 → r115 = σ 0 43 ∧ σ115 0 43 = σ 0 43 + 1 ∧ σ115 0 44 = σ 0 44 + 1 ∧ σ 0 15 < σ115 0 15 ∧ σ115 25 (σ 0 43) ≠ 2 from (by omega))⟩
        · show V 101 [some (ZR 0), some (ZI r1), some (ZI r93)] [] 41 σ93
          refine zr_iconst (pc := 101) hV (-1) dX12_readLeaf_101 rfl ?_
          refine zr_goto (pc := 102) hV 118 dX12_readLeaf_102 (by decide) ?_
          show V 118 [some (ZR 0), some (ZI r1), some (ZI r93)] [ZI (-1)] 41 σ93
          have t35 := zx_g15 hσ93
          have t36 := zx_g43 hσ93
          have t37 : σ93 0 43 = σ58 0 43 := hfσ93 _ _ (by omega)
          have t38 : σ58 0 43 = σ1 0 43 := by rw [eσ58]; exact zq_up_ne (by omega)
          have t39 : σ1 0 43 = σ 0 43 := hfσ1 _ _ (by omega)
          have t40 := zx_g44 hσ93
          have t41 : σ93 0 44 = σ58 0 44 := hfσ93 _ _ (by omega)
          have t42 : σ58 0 44 = (σ1 0 44) + 1 := by rw [eσ58]; exact zq_up_same _ _ _ _
          have t43 := zx_g15 hσ93
          exact zr_iret (pc := 118) hV dX12_readLeaf_118 rfl rfl ⟨_, rfl, ⟨by decide, by decide⟩, hσ93, hFσ93, (by omega), (show 0 ≤ ((-1) : Int) → ((-1) : Int) = σ 0 43 ∧ σ93 0 43 = σ 0 43 + 1 ∧ σ93 0 44 = σ 0 44 + 1 ∧ σ 0 15 < σ93 0 15 ∧ σ93 25 (σ 0 43) ≠ 2 from (by omega))⟩
      · show V 67 [some (ZR 0), some (ZI r1), none] [] 41 σ58
        refine zr_aload_n (pc := 67) hV dX12_readLeaf_67 rfl rfl ?_
        refine zr_dup (pc := 68) hV dX12_readLeaf_68 (fun _ => rfl) ?_
        refine zr_getI (pc := 69) hV 15 dX12_readLeaf_69 fX12_200 rfl rfl rfl (by decide) ?_
        have t44 := zx_g15 hσ58
        have t45 : σ58 0 15 = σ1 0 15 := by rw [eσ58]; exact zq_up_ne (by omega)
        refine zr_iconst (pc := 72) hV 1 dX12_readLeaf_72 rfl ?_
        refine zr_iadd (pc := 73) hV dX12_readLeaf_73 ?_
        refine zr_putI (pc := 74) hV 15 dX12_readLeaf_74 fX12_200 rfl rfl rfl rfl (by decide) (fun σ74 eσ74 => ?_)
        have hσ74 : zx_T σ74 := zx_u15 eσ74 hσ58 (by omega)
        have hFσ74 : ∀ a i : Int, (¬ (a = 0 ∧ i = 15) ∧ ¬ (a = 0 ∧ i = 43) ∧ ¬ (a = 0 ∧ i = 44) ∧ ¬ (a = 25 ∧ i = σ 0 43) ∧ ¬ (a = 26 ∧ i = σ 0 43) ∧ ¬ (a = 27 ∧ i = σ 0 43) ∧ ¬ (a = 28 ∧ i = σ 0 43)) → σ74 a i = σ a i := fun a i h => by rw [eσ74, zq_up_ne h.1]; exact hFσ58 a i h
        refine zr_aload_n (pc := 77) hV dX12_readLeaf_77 rfl rfl ?_
        refine zr_iconst (pc := 78) hV 0 dX12_readLeaf_78 rfl ?_
        refine zr_iload_n (pc := 79) hV dX12_readLeaf_79 rfl rfl ?_
        refine zr_bipush (pc := 80) hV 97 dX12_readLeaf_80 (by decide) ?_
        refine zr_isub (pc := 82) hV dX12_readLeaf_82 ?_
        refine zr_iconst (pc := 83) hV 0 dX12_readLeaf_83 rfl ?_
        refine zr_iconst (pc := 84) hV 0 dX12_readLeaf_84 rfl ?_
        have t46 := zx_g43 hσ74
        have t47 : σ74 0 43 = σ58 0 43 := by rw [eσ74]; exact zq_up_ne (by omega)
        have t48 : σ58 0 43 = σ1 0 43 := by rw [eσ58]; exact zq_up_ne (by omega)
        have t49 : σ1 0 43 = σ 0 43 := hfσ1 _ _ (by omega)
        refine zr_callVi (pc := 85) hV [ZI 0, ZI (r1 - 97), ZI 0, ZI 0] (st := []) (c_X12_addNode2 (σ := σ74) hσ74 0 (r1 - 97) 0 0 (by omega) (by omega) (by omega) (by omega) (by omega)) dX12_readLeaf_85 mX12_412 rfl (by decide) (by decide) (Nat.le_of_ble_eq_true rfl) (Nat.le_refl _) (fun r85 σ85 hr85 pσ85 => ?_)
        obtain ⟨hσ85, hfσ85, pσ85⟩ := pσ85
        have hFσ85 : ∀ a i : Int, (¬ (a = 0 ∧ i = 15) ∧ ¬ (a = 0 ∧ i = 43) ∧ ¬ (a = 0 ∧ i = 44) ∧ ¬ (a = 25 ∧ i = σ 0 43) ∧ ¬ (a = 26 ∧ i = σ 0 43) ∧ ¬ (a = 27 ∧ i = σ 0 43) ∧ ¬ (a = 28 ∧ i = σ 0 43)) → σ85 a i = σ a i := fun a i h => (hfσ85 a i ⟨h.2.1, (fun q => h.2.2.2.1 ⟨q.1, by omega⟩), (fun q => h.2.2.2.2.1 ⟨q.1, by omega⟩), (fun q => h.2.2.2.2.2.1 ⟨q.1, by omega⟩), (fun q => h.2.2.2.2.2.2 ⟨q.1, by omega⟩)⟩).trans (hFσ74 a i h)
        have t50 := zx_g43 hσ74
        have t51 : σ74 0 43 = σ58 0 43 := by rw [eσ74]; exact zq_up_ne (by omega)
        have t52 : σ58 0 43 = σ1 0 43 := by rw [eσ58]; exact zq_up_ne (by omega)
        have t53 : σ1 0 43 = σ 0 43 := hfσ1 _ _ (by omega)
        have t54 := zx_g43 hσ85
        have k85 : σ85 25 (σ 0 43) = 0 := by rw [show σ 0 43 = σ74 0 43 by omega]; exact pσ85.2.2.1
        have t55 := zx_g15 hσ85
        have t56 : σ85 0 15 = σ74 0 15 := hfσ85 _ _ (by omega)
        have t57 : σ74 0 15 = (σ58 0 15) + 1 := by rw [eσ74]; exact zq_up_same _ _ _ _
        have t58 := zx_g43 hσ85
        have t59 := zx_g44 hσ85
        have t60 : σ85 0 44 = σ74 0 44 := hfσ85 _ _ (by omega)
        have t61 : σ74 0 44 = σ58 0 44 := by rw [eσ74]; exact zq_up_ne (by omega)
        have t62 : σ58 0 44 = (σ1 0 44) + 1 := by rw [eσ58]; exact zq_up_same _ _ _ _
        have t63 := zx_g15 hσ85
        have t64 : σ85 0 15 = σ74 0 15 := hfσ85 _ _ (by omega)
        have t65 : σ74 0 15 = (σ58 0 15) + 1 := by rw [eσ74]; exact zq_up_same _ _ _ _
        exact zr_iret (pc := 88) hV dX12_readLeaf_88 rfl rfl ⟨_, rfl, (by omega), hσ85, hFσ85, (by omega), (show 0 ≤ r85 → r85 = σ 0 43 ∧ σ85 0 43 = σ 0 43 + 1 ∧ σ85 0 44 = σ 0 44 + 1 ∧ σ 0 15 < σ85 0 15 ∧ σ85 25 (σ 0 43) ≠ 2 from (by omega))⟩
    · show V 49 [some (ZR 0), some (ZI r1), none] [] 41 σ1
      refine zr_iconst (pc := 49) hV (-1) dX12_readLeaf_49 rfl ?_
      have t66 := zx_g15 hσ1
      have t67 := zx_g43 hσ1
      have t68 : σ1 0 43 = σ 0 43 := hfσ1 _ _ (by omega)
      have t69 := zx_g44 hσ1
      have t70 : σ1 0 44 = σ 0 44 := hfσ1 _ _ (by omega)
      have t71 := zx_g15 hσ1
      exact zr_iret (pc := 50) hV dX12_readLeaf_50 rfl rfl ⟨_, rfl, ⟨by decide, by decide⟩, hσ1, hFσ1, (by omega), (show 0 ≤ ((-1) : Int) → ((-1) : Int) = σ 0 43 ∧ σ1 0 43 = σ 0 43 + 1 ∧ σ1 0 44 = σ 0 44 + 1 ∧ σ 0 15 < σ1 0 15 ∧ σ1 25 (σ 0 43) ≠ 2 from (by omega))⟩
  refine zr_if_ne (pc := 23) hV 40 dX12_readLeaf_23 (by decide) (by omega) (fun c72 => ?_) (fun c72 => ?_)
  · have t73 := zx_g35 hσ1
    have t74 : σ1 0 35 = σ 0 35 := hfσ1 _ _ (by omega)
    exact J40 (by omega)
  · show V 26 [some (ZR 0), some (ZI r1), none] [] 41 σ1
    refine zr_iload_n (pc := 26) hV dX12_readLeaf_26 rfl rfl ?_
    refine zr_i2l (pc := 27) hV dX12_readLeaf_27 (by omega) ?_
    refine zr_ldc2 (pc := 28) (v := 48) hV 48 dX12_readLeaf_28 kX12_207 (by decide) ?_
    refine zr_ldc2 (pc := 31) (v := 57) hV 57 dX12_readLeaf_31 kX12_209 (by decide) ?_
    refine zr_callSp (pc := 34) hV [ZL r1, ZL 48, ZL 57] (st := []) (c_X12_in (σ := σ1) r1 48 57 (by omega) (by omega) (by omega)) dX12_readLeaf_34 mX12_170 (by decide) (Nat.le_of_ble_eq_true rfl) (Nat.le_refl _) (fun r34 hr34 pr34 => ?_)
    refine zr_if_eq (pc := 37) hV 49 dX12_readLeaf_37 (by decide) (by omega) (fun c75 => ?_) (fun c75 => ?_)
    · show V 49 [some (ZR 0), some (ZI r1), none] [] 41 σ1
      refine zr_iconst (pc := 49) hV (-1) dX12_readLeaf_49 rfl ?_
      have t76 := zx_g15 hσ1
      have t77 := zx_g43 hσ1
      have t78 : σ1 0 43 = σ 0 43 := hfσ1 _ _ (by omega)
      have t79 := zx_g44 hσ1
      have t80 : σ1 0 44 = σ 0 44 := hfσ1 _ _ (by omega)
      have t81 := zx_g15 hσ1
      exact zr_iret (pc := 50) hV dX12_readLeaf_50 rfl rfl ⟨_, rfl, ⟨by decide, by decide⟩, hσ1, hFσ1, (by omega), (show 0 ≤ ((-1) : Int) → ((-1) : Int) = σ 0 43 ∧ σ1 0 43 = σ 0 43 + 1 ∧ σ1 0 44 = σ 0 44 + 1 ∧ σ 0 15 < σ1 0 15 ∧ σ1 25 (σ 0 43) ≠ 2 from (by omega))⟩
    · have t82 := zx_g35 hσ1
      have t83 : σ1 0 35 = σ 0 35 := hfσ1 _ _ (by omega)
      exact J40 (by omega)
set_option maxHeartbeats 800000 in
theorem c_X12_readSum {σ : zq_S} (hσ : zx_T σ)  : zq_C zx_w yX12_readSum cX12_readSum 5 (some .boolean) 3 71 41 41 [ZR 0] σ (zq_pi (fun r τ => zx_T τ ∧ (∀ a i : Int, (¬ (a = 0 ∧ i = 15) ∧ ¬ (a = 0 ∧ i = 43) ∧ ¬ (a = 0 ∧ i = 44) ∧ a ≠ 25 ∧ a ≠ 26 ∧ a ≠ 27 ∧ a ≠ 28 ∧ a ≠ 29 ∧ a ≠ 30) → τ a i = σ a i) ∧ ((r = 0 ∨ r = 1)) ∧ zq_hid (r = 1 → 1 ≤ τ 0 43 ∧ τ 0 43 ≤ 39 ∧ ∃ f, zx_tree (τ 25) (τ 27) (τ 28) f (τ 0 43)))) := by
  refine zq_C_of (by decide) (Nat.le_refl _) (Nat.le_of_ble_eq_true rfl) [some (ZR 0), none, none, none, none] rfl (fun V hV => ?_)
  show V 0 [some (ZR 0), none, none, none, none] [] 41 σ
  refine zr_aload_n (pc := 0) hV dX12_readSum_0 rfl rfl ?_
  refine zr_iconst (pc := 1) hV 0 dX12_readSum_1 rfl ?_
  refine zr_putI (pc := 2) hV 15 dX12_readSum_2 fX12_200 rfl rfl rfl rfl (by decide) (fun σ2 eσ2 => ?_)
  have hσ2 : zx_T σ2 := zx_u15 eσ2 hσ (by omega)
  have hFσ2 : ∀ a i : Int, (¬ (a = 0 ∧ i = 15) ∧ ¬ (a = 0 ∧ i = 43) ∧ ¬ (a = 0 ∧ i = 44) ∧ a ≠ 25 ∧ a ≠ 26 ∧ a ≠ 27 ∧ a ≠ 28 ∧ a ≠ 29 ∧ a ≠ 30) → σ2 a i = σ a i := fun a i h => by rw [eσ2, zq_up_ne h.1]
  refine zr_aload_n (pc := 5) hV dX12_readSum_5 rfl rfl ?_
  refine zr_iconst (pc := 6) hV 0 dX12_readSum_6 rfl ?_
  refine zr_putI (pc := 7) hV 43 dX12_readSum_7 fX12_406 rfl rfl rfl rfl (by decide) (fun σ7 eσ7 => ?_)
  have hσ7 : zx_T σ7 := zx_u43 eσ7 hσ2 (by omega)
  have hFσ7 : ∀ a i : Int, (¬ (a = 0 ∧ i = 15) ∧ ¬ (a = 0 ∧ i = 43) ∧ ¬ (a = 0 ∧ i = 44) ∧ a ≠ 25 ∧ a ≠ 26 ∧ a ≠ 27 ∧ a ≠ 28 ∧ a ≠ 29 ∧ a ≠ 30) → σ7 a i = σ a i := fun a i h => by rw [eσ7, zq_up_ne h.2.1]; exact hFσ2 a i h
  refine zr_aload_n (pc := 10) hV dX12_readSum_10 rfl rfl ?_
  refine zr_iconst (pc := 11) hV 0 dX12_readSum_11 rfl ?_
  refine zr_putI (pc := 12) hV 44 dX12_readSum_12 fX12_409 rfl rfl rfl rfl (by decide) (fun σ12 eσ12 => ?_)
  have hσ12 : zx_T σ12 := zx_u44 eσ12 hσ7 (by omega)
  have hFσ12 : ∀ a i : Int, (¬ (a = 0 ∧ i = 15) ∧ ¬ (a = 0 ∧ i = 43) ∧ ¬ (a = 0 ∧ i = 44) ∧ a ≠ 25 ∧ a ≠ 26 ∧ a ≠ 27 ∧ a ≠ 28 ∧ a ≠ 29 ∧ a ≠ 30) → σ12 a i = σ a i := fun a i h => by rw [eσ12, zq_up_ne h.2.2.1]; exact hFσ7 a i h
  refine zr_iconst (pc := 15) hV 0 dX12_readSum_15 rfl ?_
  refine zr_istore_n (pc := 16) hV [some (ZR 0), some (ZI 0), none, none, none] dX12_readSum_16 rfl (by decide) rfl rfl ?_
  refine zr_aload_n (pc := 17) hV dX12_readSum_17 rfl rfl ?_
  refine zr_getR (pc := 18) hV 49 29 dX12_readSum_18 fX12_111 rfl rfl rfl (by decide) (zx_g49 hσ12) (by omega) ?_
  refine zr_iconst (pc := 21) hV 0 dX12_readSum_21 rfl ?_
  refine zr_iconst (pc := 22) hV (-1) dX12_readSum_22 rfl ?_
  refine zr_iast (pc := 23) hV dX12_readSum_23 rfl (by decide) rfl (by omega) (fun σ23 eσ23 => ?_)
  have hσ23 : zx_T σ23 := zx_ua29 eσ23 hσ12 (by omega)
  have hFσ23 : ∀ a i : Int, (¬ (a = 0 ∧ i = 15) ∧ ¬ (a = 0 ∧ i = 43) ∧ ¬ (a = 0 ∧ i = 44) ∧ a ≠ 25 ∧ a ≠ 26 ∧ a ≠ 27 ∧ a ≠ 28 ∧ a ≠ 29 ∧ a ≠ 30) → σ23 a i = σ a i := fun a i h => by rw [eσ23, zq_up_ne (fun q => h.2.2.2.2.2.2.2.1 q.1)]; exact hFσ12 a i h
  have L24 : ∀ (fuel : Nat) (x1_24 : Int) (σ_24 : zq_S), (0 ≤ x1_24 ∧ x1_24 ≤ 6) → (zx_T σ_24) → (∀ a i : Int, (¬ (a = 0 ∧ i = 15) ∧ ¬ (a = 0 ∧ i = 43) ∧ ¬ (a = 0 ∧ i = 44) ∧ a ≠ 25 ∧ a ≠ 26 ∧ a ≠ 27 ∧ a ≠ 28 ∧ a ≠ 29 ∧ a ≠ 30) → σ_24 a i = σ a i) → (zx_QA σ_24 x1_24) → 80 - σ_24 0 15 < (fuel : Int) → V 24 [some (ZR 0), some (ZI x1_24), none, none, none] [] 41 σ_24 := by
    intro fuel
    induction fuel with
    | zero =>
      intro x1_24 σ_24 hx1_24 hσ_24 hFσ_24 hi24_0 hm24
      have t1 := zx_g15 hσ_24
      exfalso; omega
    | succ fuel ih =>
      intro x1_24 σ_24 hx1_24 hσ_24 hFσ_24 hi24_0 hm24
      have ih24 := ih
      show V 24 [some (ZR 0), some (ZI x1_24), none, none, none] [] 41 σ_24
      refine zr_aload_n (pc := 24) hV dX12_readSum_24 rfl rfl ?_
      refine zr_callVi (pc := 25) hV [] (st := []) (c_X12_next (σ := σ_24) hσ_24 ) dX12_readSum_25 mX12_203 rfl (by decide) (by decide) (Nat.le_of_ble_eq_true rfl) (Nat.le_refl _) (fun r25 σ25 hr25 pσ25 => ?_)
      obtain ⟨hσ25, hfσ25, pσ25, wσ25⟩ := pσ25
      have hFσ25 : ∀ a i : Int, (¬ (a = 0 ∧ i = 15) ∧ ¬ (a = 0 ∧ i = 43) ∧ ¬ (a = 0 ∧ i = 44) ∧ a ≠ 25 ∧ a ≠ 26 ∧ a ≠ 27 ∧ a ≠ 28 ∧ a ≠ 29 ∧ a ≠ 30) → σ25 a i = σ a i := fun a i h => (hfσ25 a i h.1).trans (hFσ_24 a i h)
      have t2 := zx_g14 hσ_24
      have t3 : σ_24 0 14 = σ 0 14 := hFσ_24 _ _ (by omega)
      have t4 := zx_g15 hσ_24
      have t5 := zx_g15 hσ25
      have q25 : zx_QA σ25 x1_24 := zx_QA_fr ⟨fun i => hfσ25 25 i (by omega), fun i => hfσ25 27 i (by omega), fun i => hfσ25 28 i (by omega), fun i => hfσ25 29 i (by omega), hfσ25 0 43 (by omega), hfσ25 0 44 (by omega)⟩ hi24_0
      have p25 := zx_QA_pre q25
      refine zr_bipush (pc := 28) hV 40 dX12_readSum_28 (by decide) ?_
      refine zr_icmp_ne (pc := 30) hV 64 dX12_readSum_30 (by decide) (by omega) ⟨by decide, by decide⟩ (fun c6 => ?_) (fun c6 => ?_)
      · show V 64 [some (ZR 0), some (ZI x1_24), none, none, none] [] 41 σ25
        refine zr_aload_n (pc := 64) hV dX12_readSum_64 rfl rfl ?_
        have t7 := zx_g43 hσ25
        have t8 : σ25 0 43 = σ_24 0 43 := hfσ25 _ _ (by omega)
        have t9 := zx_g44 hσ25
        have t10 : σ25 0 44 = σ_24 0 44 := hfσ25 _ _ (by omega)
        refine zr_callVi (pc := 65) hV [] (st := []) (c_X12_readLeaf2 (σ := σ25) hσ25 (by omega)) dX12_readSum_65 mX12_415 rfl (by decide) (by decide) (Nat.le_of_ble_eq_true rfl) (Nat.le_refl _) (fun r65 σ65 hr65 pσ65 => ?_)
        obtain ⟨hσ65, hfσ65, pσ65, wσ65⟩ := pσ65
        have hFσ65 : ∀ a i : Int, (¬ (a = 0 ∧ i = 15) ∧ ¬ (a = 0 ∧ i = 43) ∧ ¬ (a = 0 ∧ i = 44) ∧ a ≠ 25 ∧ a ≠ 26 ∧ a ≠ 27 ∧ a ≠ 28 ∧ a ≠ 29 ∧ a ≠ 30) → σ65 a i = σ a i := fun a i h => (hfσ65 a i ⟨h.1, h.2.1, h.2.2.1, (fun q => h.2.2.2.1 q.1), (fun q => h.2.2.2.2.1 q.1), (fun q => h.2.2.2.2.2.1 q.1), (fun q => h.2.2.2.2.2.2.1 q.1)⟩).trans (hFσ25 a i h)
        have t11 := zx_g15 hσ25
        have t12 := zx_g43 hσ25
        have t13 : σ25 0 43 = σ_24 0 43 := hfσ25 _ _ (by omega)
        have t14 := zx_g44 hσ25
        have t15 : σ25 0 44 = σ_24 0 44 := hfσ25 _ _ (by omega)
        have t16 := zx_g15 hσ65
        refine zr_istore_n (pc := 68) hV [some (ZR 0), some (ZI x1_24), some (ZI r65), none, none] dX12_readSum_68 rfl (by decide) rfl rfl ?_
        refine zr_iload_n (pc := 69) hV dX12_readSum_69 rfl rfl ?_
        refine zr_if_ge (pc := 70) hV 75 dX12_readSum_70 (by decide) (by omega) (fun c17 => ?_) (fun c17 => ?_)
        · show V 75 [some (ZR 0), some (ZI x1_24), some (ZI r65), none, none] [] 41 σ65
          have u65 : r65 = σ25 0 43 ∧ σ65 0 43 = σ25 0 43 + 1 ∧ σ65 0 44 = σ25 0 44 + 1 ∧ σ25 0 15 < σ65 0 15 ∧ σ65 25 (σ25 0 43) ≠ 2 := wσ65 (by omega)
          have b65 : zx_QB σ65 x1_24 r65 := by rw [u65.1]; exact zx_QB_leaf (by have := zx_g43 hσ25; omega) (fun i h => hfσ65 25 i (by omega)) (fun i h => hfσ65 27 i (by omega)) (fun i h => hfσ65 28 i (by omega)) (fun i => hfσ65 29 i (by omega)) u65.2.2.2.2 u65.2.1 u65.2.2.1 q25
          refine zr_iconst (pc := 75) hV 1 dX12_readSum_75 rfl ?_
          refine zr_istore_n (pc := 76) hV [some (ZR 0), some (ZI x1_24), some (ZI r65), some (ZI 1), none] dX12_readSum_76 rfl (by decide) rfl rfl ?_
          have t18 := zx_g15 hσ65
          have L77 : ∀ (fuel : Nat) (x1_77 : Int) (x2_77 : Int) (x3_77 : Int) (σ_77 : zq_S), (0 ≤ x1_77 ∧ x1_77 ≤ 6) → (0 ≤ x2_77 ∧ x2_77 ≤ 39) → (0 ≤ x3_77 ∧ x3_77 ≤ 1) → (zx_T σ_77) → (∀ a i : Int, (¬ (a = 0 ∧ i = 15) ∧ ¬ (a = 0 ∧ i = 43) ∧ ¬ (a = 0 ∧ i = 44) ∧ a ≠ 25 ∧ a ≠ 26 ∧ a ≠ 27 ∧ a ≠ 28 ∧ a ≠ 29 ∧ a ≠ 30) → σ_77 a i = σ a i) → (zq_hid (x3_77 = 1 → zx_QB σ_77 x1_77 x2_77)) → (zq_hid (x3_77 = 0 → zx_QA σ_77 x1_77)) → (σ65 0 15 ≤ σ_77 0 15) → 80 - σ_77 0 15 < (fuel : Int) → V 77 [some (ZR 0), some (ZI x1_77), some (ZI x2_77), some (ZI x3_77), none] [] 41 σ_77 := by
            intro fuel
            induction fuel with
            | zero =>
              intro x1_77 x2_77 x3_77 σ_77 hx1_77 hx2_77 hx3_77 hσ_77 hFσ_77 hi77_0 hi77_1 hi77_2 hm77
              have t19 := zx_g15 hσ_77
              exfalso; omega
            | succ fuel ih =>
              intro x1_77 x2_77 x3_77 σ_77 hx1_77 hx2_77 hx3_77 hσ_77 hFσ_77 hi77_0 hi77_1 hi77_2 hm77
              have ih77 := ih
              show V 77 [some (ZR 0), some (ZI x1_77), some (ZI x2_77), some (ZI x3_77), none] [] 41 σ_77
              refine zr_iload_n (pc := 77) hV dX12_readSum_77 rfl rfl ?_
              refine zr_if_eq (pc := 78) hV 210 dX12_readSum_78 (by decide) (by omega) (fun c20 => ?_) (fun c20 => ?_)
              · show V 210 [some (ZR 0), some (ZI x1_77), some (ZI x2_77), some (ZI x3_77), none] [] 41 σ_77
                refine zr_goto (pc := 210) hV 24 dX12_readSum_210 (by decide) ?_
                have t21 := zx_g15 hσ_77
                refine zr_sub (pc := 24) hV [some (ZR 0), some (ZI x1_77), none, none, none] (⟨rfl, rfl, trivial⟩) ?_
                exact ih24 x1_77 σ_77 (by omega) hσ_77 hFσ_77 (hi77_1 (by omega)) (by omega)
              · show V 81 [some (ZR 0), some (ZI x1_77), some (ZI x2_77), some (ZI x3_77), none] [] 41 σ_77
                have b77 : zx_QB σ_77 x1_77 x2_77 := hi77_0 (by omega)
                have n77 := b77.1
                have nn77 := b77.2.1
                have g44 := zx_g44 hσ_77
                refine zr_aload_n (pc := 81) hV dX12_readSum_81 rfl rfl ?_
                refine zr_getR (pc := 82) hV 49 29 dX12_readSum_82 fX12_111 rfl rfl rfl (by decide) (zx_g49 hσ_77) (by omega) ?_
                refine zr_iload_n (pc := 85) hV dX12_readSum_85 rfl rfl ?_
                refine zr_aload_n (pc := 86) hV dX12_readSum_86 rfl rfl ?_
                refine zr_getR (pc := 87) hV 49 29 dX12_readSum_87 fX12_111 rfl rfl rfl (by decide) (zx_g49 hσ_77) (by omega) ?_
                refine zr_iload_n (pc := 90) hV dX12_readSum_90 rfl rfl ?_
                refine zr_iald (pc := 91) hV dX12_readSum_91 rfl (by decide) rfl (by omega) ?_
                have t22 := zx_ga29 hσ_77 x1_77
                refine zr_if_ge (pc := 92) hV 99 dX12_readSum_92 (by decide) (by omega) (fun c23 => ?_) (fun c23 => ?_)
                · show V 99 [some (ZR 0), some (ZI x1_77), some (ZI x2_77), some (ZI x3_77), none] [ZI x1_77, ZR 29] 41 σ_77
                  have pb := zx_QB_pre (by omega) (by omega) b77
                  refine zr_aload_n (pc := 99) hV dX12_readSum_99 rfl rfl ?_
                  refine zr_iconst (pc := 100) hV 2 dX12_readSum_100 rfl ?_
                  refine zr_aload_n (pc := 101) hV dX12_readSum_101 rfl rfl ?_
                  refine zr_getR (pc := 102) hV 50 30 dX12_readSum_102 fX12_114 rfl rfl rfl (by decide) (zx_g50 hσ_77) (by omega) ?_
                  refine zr_iload_n (pc := 105) hV dX12_readSum_105 rfl rfl ?_
                  refine zr_iald (pc := 106) hV dX12_readSum_106 rfl (by decide) rfl (by omega) ?_
                  have t24 := zx_ga30 hσ_77 x1_77
                  refine zr_aload_n (pc := 107) hV dX12_readSum_107 rfl rfl ?_
                  refine zr_getR (pc := 108) hV 49 29 dX12_readSum_108 fX12_111 rfl rfl rfl (by decide) (zx_g49 hσ_77) (by omega) ?_
                  refine zr_iload_n (pc := 111) hV dX12_readSum_111 rfl rfl ?_
                  refine zr_iald (pc := 112) hV dX12_readSum_112 rfl (by decide) rfl (by omega) ?_
                  have t25 := zx_ga29 hσ_77 x1_77
                  refine zr_iload_n (pc := 113) hV dX12_readSum_113 rfl rfl ?_
                  have t26 := zx_g43 hσ_77
                  refine zr_callVi (pc := 114) hV [ZI 2, ZI (σ_77 30 x1_77), ZI (σ_77 29 x1_77), ZI x2_77] (st := [ZI x1_77, ZR 29]) (c_X12_addNode2 (σ := σ_77) hσ_77 2 (σ_77 30 x1_77) (σ_77 29 x1_77) x2_77 (by omega) (by omega) (by omega) (by omega) (by omega)) dX12_readSum_114 mX12_412 rfl (by decide) (by decide) (Nat.le_of_ble_eq_true rfl) (Nat.le_refl _) (fun r114 σ114 hr114 pσ114 => ?_)
                  obtain ⟨hσ114, hfσ114, pσ114⟩ := pσ114
                  have hFσ114 : ∀ a i : Int, (¬ (a = 0 ∧ i = 15) ∧ ¬ (a = 0 ∧ i = 43) ∧ ¬ (a = 0 ∧ i = 44) ∧ a ≠ 25 ∧ a ≠ 26 ∧ a ≠ 27 ∧ a ≠ 28 ∧ a ≠ 29 ∧ a ≠ 30) → σ114 a i = σ a i := fun a i h => (hfσ114 a i ⟨h.2.1, (fun q => h.2.2.2.1 q.1), (fun q => h.2.2.2.2.1 q.1), (fun q => h.2.2.2.2.2.1 q.1), (fun q => h.2.2.2.2.2.2.1 q.1)⟩).trans (hFσ_77 a i h)
                  have t27 := zx_g43 hσ_77
                  have t28 := zx_g43 hσ114
                  show V 117 [some (ZR 0), some (ZI x1_77), some (ZI x2_77), some (ZI x3_77), none] [ZI r114, ZI x1_77, ZR 29] 41 σ114
                  refine zr_iast (pc := 117) hV dX12_readSum_117 rfl (by decide) rfl (by omega) (fun σ117 eσ117 => ?_)
                  have hσ117 : zx_T σ117 := zx_ua29 eσ117 hσ114 (by omega)
                  have hFσ117 : ∀ a i : Int, (¬ (a = 0 ∧ i = 15) ∧ ¬ (a = 0 ∧ i = 43) ∧ ¬ (a = 0 ∧ i = 44) ∧ a ≠ 25 ∧ a ≠ 26 ∧ a ≠ 27 ∧ a ≠ 28 ∧ a ≠ 29 ∧ a ≠ 30) → σ117 a i = σ a i := fun a i h => by rw [eσ117, zq_up_ne (fun q => h.2.2.2.2.2.2.2.1 q.1)]; exact hFσ114 a i h
                  have c117 : zx_QC σ117 x1_77 := zx_QC_add (σ := σ_77) (ρ := σ114) (by omega) (by omega) (fun i h => hfσ114 25 i (by omega)) (fun i h => hfσ114 27 i (by omega)) (fun i h => hfσ114 28 i (by omega)) (fun i => hfσ114 29 i (by omega)) pσ114.2.2.1 pσ114.2.2.2.1 pσ114.2.2.2.2 pσ114.2.1 (hfσ114 0 44 (by omega)) (by rw [← pσ114.1]; exact eσ117) b77
                  refine zr_aload_n (pc := 118) hV dX12_readSum_118 rfl rfl ?_
                  refine zr_callVi (pc := 119) hV [] (st := []) (c_X12_next (σ := σ117) hσ117 ) dX12_readSum_119 mX12_203 rfl (by decide) (by decide) (Nat.le_of_ble_eq_true rfl) (Nat.le_refl _) (fun r119 σ119 hr119 pσ119 => ?_)
                  obtain ⟨hσ119, hfσ119, pσ119, wσ119⟩ := pσ119
                  have hFσ119 : ∀ a i : Int, (¬ (a = 0 ∧ i = 15) ∧ ¬ (a = 0 ∧ i = 43) ∧ ¬ (a = 0 ∧ i = 44) ∧ a ≠ 25 ∧ a ≠ 26 ∧ a ≠ 27 ∧ a ≠ 28 ∧ a ≠ 29 ∧ a ≠ 30) → σ119 a i = σ a i := fun a i h => (hfσ119 a i h.1).trans (hFσ117 a i h)
                  have t29 := zx_g14 hσ117
                  have t30 : σ117 0 14 = σ114 0 14 := by rw [eσ117]; exact zq_up_ne (by omega)
                  have t31 : σ114 0 14 = σ_77 0 14 := hfσ114 _ _ (by omega)
                  have t32 : σ_77 0 14 = σ 0 14 := hFσ_77 _ _ (by omega)
                  have t33 := zx_g15 hσ117
                  have t34 : σ117 0 15 = σ114 0 15 := by rw [eσ117]; exact zq_up_ne (by omega)
                  have t35 : σ114 0 15 = σ_77 0 15 := hfσ114 _ _ (by omega)
                  have t36 := zx_g15 hσ119
                  have c119 : zx_QC σ119 x1_77 := zx_QC_fr ⟨fun i => hfσ119 25 i (by omega), fun i => hfσ119 27 i (by omega), fun i => hfσ119 28 i (by omega), fun i => hfσ119 29 i (by omega), hfσ119 0 43 (by omega), hfσ119 0 44 (by omega)⟩ c117
                  refine zr_istore (pc := 122) hV [some (ZR 0), some (ZI x1_77), some (ZI x2_77), some (ZI x3_77), some (ZI r119)] dX12_readSum_122 (by decide) rfl rfl ?_
                  refine zr_iload (pc := 124) hV dX12_readSum_124 rfl ?_
                  refine zr_callSp (pc := 126) hV [ZI r119] (st := []) (c_X12_signOf (σ := σ119) r119 (by omega)) dX12_readSum_126 mX12_245 (by decide) (Nat.le_of_ble_eq_true rfl) (Nat.le_refl _) (fun r126 hr126 pr126 => ?_)
                  refine zr_if_le (pc := 129) hV 158 dX12_readSum_129 (by decide) (by omega) (fun c37 => ?_) (fun c37 => ?_)
                  · show V 158 [some (ZR 0), some (ZI x1_77), some (ZI x2_77), some (ZI x3_77), some (ZI r119)] [] 41 σ119
                    refine zr_iload (pc := 158) hV dX12_readSum_158 rfl ?_
                    refine zr_bipush (pc := 160) hV 41 dX12_readSum_160 (by decide) ?_
                    refine zr_icmp_ne (pc := 162) hV 192 dX12_readSum_162 (by decide) (by omega) ⟨by decide, by decide⟩ (fun c38 => ?_) (fun c38 => ?_)
                    · show V 192 [some (ZR 0), some (ZI x1_77), some (ZI x2_77), some (ZI x3_77), some (ZI r119)] [] 41 σ119
                      refine zr_iload (pc := 192) hV dX12_readSum_192 rfl ?_
                      refine zr_if_ge (pc := 194) hV 205 dX12_readSum_194 (by decide) (by omega) (fun c39 => ?_) (fun c39 => ?_)
                      · show V 205 [some (ZR 0), some (ZI x1_77), some (ZI x2_77), some (ZI x3_77), some (ZI r119)] [] 41 σ119
                        refine zr_iconst (pc := 205) hV 0 dX12_readSum_205 rfl ?_
                        show V 206 [some (ZR 0), some (ZI x1_77), some (ZI x2_77), some (ZI x3_77), some (ZI r119)] [ZI 0] 41 σ119
                        have t40 := zx_g43 hσ119
                        have t41 : σ119 0 43 = σ117 0 43 := hfσ119 _ _ (by omega)
                        have t42 : σ117 0 43 = σ114 0 43 := by rw [eσ117]; exact zq_up_ne (by omega)
                        exact zr_zret (pc := 206) hV dX12_readSum_206 rfl rfl (by omega) ⟨_, rfl, ⟨by decide, by decide⟩, hσ119, hFσ119, (by omega), (show (0 : Int) = 1 → 1 ≤ σ119 0 43 ∧ σ119 0 43 ≤ 39 ∧ ∃ f, zx_tree (σ119 25) (σ119 27) (σ119 28) f (σ119 0 43) from (fun h => absurd h (by omega)))⟩
                      · show V 197 [some (ZR 0), some (ZI x1_77), some (ZI x2_77), some (ZI x3_77), some (ZI r119)] [] 41 σ119
                        refine zr_iload_n (pc := 197) hV dX12_readSum_197 rfl rfl ?_
                        refine zr_if_ne (pc := 198) hV 205 dX12_readSum_198 (by decide) (by omega) (fun c43 => ?_) (fun c43 => ?_)
                        · show V 205 [some (ZR 0), some (ZI x1_77), some (ZI x2_77), some (ZI x3_77), some (ZI r119)] [] 41 σ119
                          refine zr_iconst (pc := 205) hV 0 dX12_readSum_205 rfl ?_
                          show V 206 [some (ZR 0), some (ZI x1_77), some (ZI x2_77), some (ZI x3_77), some (ZI r119)] [ZI 0] 41 σ119
                          have t44 := zx_g43 hσ119
                          have t45 : σ119 0 43 = σ117 0 43 := hfσ119 _ _ (by omega)
                          have t46 : σ117 0 43 = σ114 0 43 := by rw [eσ117]; exact zq_up_ne (by omega)
                          exact zr_zret (pc := 206) hV dX12_readSum_206 rfl rfl (by omega) ⟨_, rfl, ⟨by decide, by decide⟩, hσ119, hFσ119, (by omega), (show (0 : Int) = 1 → 1 ≤ σ119 0 43 ∧ σ119 0 43 ≤ 39 ∧ ∃ f, zx_tree (σ119 25) (σ119 27) (σ119 28) f (σ119 0 43) from (fun h => absurd h (by omega)))⟩
                        · show V 201 [some (ZR 0), some (ZI x1_77), some (ZI x2_77), some (ZI x3_77), some (ZI r119)] [] 41 σ119
                          refine zr_iconst (pc := 201) hV 1 dX12_readSum_201 rfl ?_
                          refine zr_goto (pc := 202) hV 206 dX12_readSum_202 (by decide) ?_
                          show V 206 [some (ZR 0), some (ZI x1_77), some (ZI x2_77), some (ZI x3_77), some (ZI r119)] [ZI 1] 41 σ119
                          have t47 := zx_g43 hσ119
                          have t48 : σ119 0 43 = σ117 0 43 := hfσ119 _ _ (by omega)
                          have t49 : σ117 0 43 = σ114 0 43 := by rw [eσ117]; exact zq_up_ne (by omega)
                          exact zr_zret (pc := 206) hV dX12_readSum_206 rfl rfl (by omega) ⟨_, rfl, ⟨by decide, by decide⟩, hσ119, hFσ119, (by omega), (show (1 : Int) = 1 → 1 ≤ σ119 0 43 ∧ σ119 0 43 ≤ 39 ∧ ∃ f, zx_tree (σ119 25) (σ119 27) (σ119 28) f (σ119 0 43) from (fun _ => zx_QC_end (show zx_QC σ119 0 from (show x1_77 = 0 by omega) ▸ c119) (by have := zx_g44 hσ119; omega)))⟩
                    · show V 165 [some (ZR 0), some (ZI x1_77), some (ZI x2_77), some (ZI x3_77), some (ZI r119)] [] 41 σ119
                      refine zr_iload_n (pc := 165) hV dX12_readSum_165 rfl rfl ?_
                      refine zr_if_le (pc := 166) hV 192 dX12_readSum_166 (by decide) (by omega) (fun c50 => ?_) (fun c50 => ?_)
                      · show V 192 [some (ZR 0), some (ZI x1_77), some (ZI x2_77), some (ZI x3_77), some (ZI r119)] [] 41 σ119
                        refine zr_iload (pc := 192) hV dX12_readSum_192 rfl ?_
                        refine zr_if_ge (pc := 194) hV 205 dX12_readSum_194 (by decide) (by omega) (fun c51 => ?_) (fun c51 => ?_)
                        · show V 205 [some (ZR 0), some (ZI x1_77), some (ZI x2_77), some (ZI x3_77), some (ZI r119)] [] 41 σ119
                          refine zr_iconst (pc := 205) hV 0 dX12_readSum_205 rfl ?_
                          show V 206 [some (ZR 0), some (ZI x1_77), some (ZI x2_77), some (ZI x3_77), some (ZI r119)] [ZI 0] 41 σ119
                          have t52 := zx_g43 hσ119
                          have t53 : σ119 0 43 = σ117 0 43 := hfσ119 _ _ (by omega)
                          have t54 : σ117 0 43 = σ114 0 43 := by rw [eσ117]; exact zq_up_ne (by omega)
                          exact zr_zret (pc := 206) hV dX12_readSum_206 rfl rfl (by omega) ⟨_, rfl, ⟨by decide, by decide⟩, hσ119, hFσ119, (by omega), (show (0 : Int) = 1 → 1 ≤ σ119 0 43 ∧ σ119 0 43 ≤ 39 ∧ ∃ f, zx_tree (σ119 25) (σ119 27) (σ119 28) f (σ119 0 43) from (fun h => absurd h (by omega)))⟩
                        · exfalso; omega
                      · show V 169 [some (ZR 0), some (ZI x1_77), some (ZI x2_77), some (ZI x3_77), some (ZI r119)] [] 41 σ119
                        refine zr_aload_n (pc := 169) hV dX12_readSum_169 rfl rfl ?_
                        refine zr_dup (pc := 170) hV dX12_readSum_170 (fun _ => rfl) ?_
                        refine zr_getI (pc := 171) hV 15 dX12_readSum_171 fX12_200 rfl rfl rfl (by decide) ?_
                        have t55 := zx_g15 hσ119
                        refine zr_iconst (pc := 174) hV 1 dX12_readSum_174 rfl ?_
                        refine zr_iadd (pc := 175) hV dX12_readSum_175 ?_
                        refine zr_putI (pc := 176) hV 15 dX12_readSum_176 fX12_200 rfl rfl rfl rfl (by decide) (fun σ176 eσ176 => ?_)
                        have hσ176 : zx_T σ176 := zx_u15 eσ176 hσ119 (by omega)
                        have hFσ176 : ∀ a i : Int, (¬ (a = 0 ∧ i = 15) ∧ ¬ (a = 0 ∧ i = 43) ∧ ¬ (a = 0 ∧ i = 44) ∧ a ≠ 25 ∧ a ≠ 26 ∧ a ≠ 27 ∧ a ≠ 28 ∧ a ≠ 29 ∧ a ≠ 30) → σ176 a i = σ a i := fun a i h => by rw [eσ176, zq_up_ne h.1]; exact hFσ119 a i h
                        have c176 : zx_QC σ176 x1_77 := zx_QC_fr ⟨fun i => by rw [eσ176, zq_up_ne (by omega)], fun i => by rw [eσ176, zq_up_ne (by omega)], fun i => by rw [eσ176, zq_up_ne (by omega)], fun i => by rw [eσ176, zq_up_ne (by omega)], by rw [eσ176, zq_up_ne (by omega)], by rw [eσ176, zq_up_ne (by omega)]⟩ c119
                        have v176 := c176.2.1
                        have w176 := c176.1
                        refine zr_aload_n (pc := 179) hV dX12_readSum_179 rfl rfl ?_
                        refine zr_getR (pc := 180) hV 49 29 dX12_readSum_180 fX12_111 rfl rfl rfl (by decide) (zx_g49 hσ176) (by omega) ?_
                        refine zr_iload_n (pc := 183) hV dX12_readSum_183 rfl rfl ?_
                        refine zr_iald (pc := 184) hV dX12_readSum_184 rfl (by decide) rfl (by omega) ?_
                        have t56 := zx_ga29 hσ176 x1_77
                        have t57 : σ176 29 x1_77 = σ119 29 x1_77 := by rw [eσ176]; exact zq_up_ne (by omega)
                        have t58 : σ119 29 x1_77 = σ117 29 x1_77 := hfσ119 _ _ (by omega)
                        have t59 : σ117 29 x1_77 = r114 := by rw [eσ117]; exact zq_up_same _ _ _ _
                        refine zr_istore_n (pc := 185) hV [some (ZR 0), some (ZI x1_77), some (ZI (σ176 29 x1_77)), some (ZI x3_77), some (ZI r119)] dX12_readSum_185 rfl (by decide) rfl rfl ?_
                        refine zr_iinc (pc := 186) hV [some (ZR 0), some (ZI (x1_77 + (-1))), some (ZI (σ176 29 x1_77)), some (ZI x3_77), some (ZI r119)] (x1_77 + (-1)) dX12_readSum_186 rfl rfl (by decide) rfl rfl ?_
                        have b176 : zx_QB σ176 (x1_77 + (-1)) (σ176 29 x1_77) := by rw [show x1_77 + (-1) = x1_77 - 1 by omega]; exact zx_QC_close (by omega) c176
                        refine zr_goto (pc := 189) hV 207 dX12_readSum_189 (by decide) ?_
                        show V 207 [some (ZR 0), some (ZI (x1_77 + (-1))), some (ZI (σ176 29 x1_77)), some (ZI x3_77), some (ZI r119)] [] 41 σ176
                        refine zr_goto (pc := 207) hV 77 dX12_readSum_207 (by decide) ?_
                        have t60 := zx_g15 hσ176
                        have t61 : σ176 0 15 = (σ119 0 15) + 1 := by rw [eσ176]; exact zq_up_same _ _ _ _
                        have t62 := zx_g15 hσ176
                        have t63 : σ176 0 15 = (σ119 0 15) + 1 := by rw [eσ176]; exact zq_up_same _ _ _ _
                        refine zr_sub (pc := 77) hV [some (ZR 0), some (ZI (x1_77 + (-1))), some (ZI (σ176 29 x1_77)), some (ZI x3_77), none] (⟨rfl, rfl, rfl, rfl, trivial⟩) ?_
                        exact ih77 (x1_77 + (-1)) (σ176 29 x1_77) x3_77 σ176 (by omega) (by omega) (by omega) hσ176 hFσ176 (fun _ => b176) (fun h => absurd h (by omega)) (by omega) (by omega)
                  · show V 132 [some (ZR 0), some (ZI x1_77), some (ZI x2_77), some (ZI x3_77), some (ZI r119)] [] 41 σ119
                    refine zr_aload_n (pc := 132) hV dX12_readSum_132 rfl rfl ?_
                    refine zr_dup (pc := 133) hV dX12_readSum_133 (fun _ => rfl) ?_
                    refine zr_getI (pc := 134) hV 15 dX12_readSum_134 fX12_200 rfl rfl rfl (by decide) ?_
                    have t64 := zx_g15 hσ119
                    refine zr_iconst (pc := 137) hV 1 dX12_readSum_137 rfl ?_
                    refine zr_iadd (pc := 138) hV dX12_readSum_138 ?_
                    refine zr_putI (pc := 139) hV 15 dX12_readSum_139 fX12_200 rfl rfl rfl rfl (by decide) (fun σ139 eσ139 => ?_)
                    have hσ139 : zx_T σ139 := zx_u15 eσ139 hσ119 (by omega)
                    have hFσ139 : ∀ a i : Int, (¬ (a = 0 ∧ i = 15) ∧ ¬ (a = 0 ∧ i = 43) ∧ ¬ (a = 0 ∧ i = 44) ∧ a ≠ 25 ∧ a ≠ 26 ∧ a ≠ 27 ∧ a ≠ 28 ∧ a ≠ 29 ∧ a ≠ 30) → σ139 a i = σ a i := fun a i h => by rw [eσ139, zq_up_ne h.1]; exact hFσ119 a i h
                    refine zr_aload_n (pc := 142) hV dX12_readSum_142 rfl rfl ?_
                    refine zr_getR (pc := 143) hV 50 30 dX12_readSum_143 fX12_114 rfl rfl rfl (by decide) (zx_g50 hσ139) (by omega) ?_
                    refine zr_iload_n (pc := 146) hV dX12_readSum_146 rfl rfl ?_
                    refine zr_iload (pc := 147) hV dX12_readSum_147 rfl ?_
                    refine zr_callSp (pc := 149) hV [ZI r119] (st := [ZI x1_77, ZR 30]) (c_X12_signOf (σ := σ139) r119 (by omega)) dX12_readSum_149 mX12_245 (by decide) (Nat.le_of_ble_eq_true rfl) (Nat.le_refl _) (fun r149 hr149 pr149 => ?_)
                    refine zr_iast (pc := 152) hV dX12_readSum_152 rfl (by decide) rfl (by omega) (fun σ152 eσ152 => ?_)
                    have hσ152 : zx_T σ152 := zx_ua30 eσ152 hσ139 (by omega)
                    have hFσ152 : ∀ a i : Int, (¬ (a = 0 ∧ i = 15) ∧ ¬ (a = 0 ∧ i = 43) ∧ ¬ (a = 0 ∧ i = 44) ∧ a ≠ 25 ∧ a ≠ 26 ∧ a ≠ 27 ∧ a ≠ 28 ∧ a ≠ 29 ∧ a ≠ 30) → σ152 a i = σ a i := fun a i h => by rw [eσ152, zq_up_ne (fun q => h.2.2.2.2.2.2.2.2 q.1)]; exact hFσ139 a i h
                    have a152 : zx_QA σ152 x1_77 := zx_QA_fr ⟨fun i => by rw [eσ152, zq_up_ne (by omega), eσ139, zq_up_ne (by omega)], fun i => by rw [eσ152, zq_up_ne (by omega), eσ139, zq_up_ne (by omega)], fun i => by rw [eσ152, zq_up_ne (by omega), eσ139, zq_up_ne (by omega)], fun i => by rw [eσ152, zq_up_ne (by omega), eσ139, zq_up_ne (by omega)], by rw [eσ152, zq_up_ne (by omega), eσ139, zq_up_ne (by omega)], by rw [eσ152, zq_up_ne (by omega), eσ139, zq_up_ne (by omega)]⟩ (zx_QC_A (by omega) c119)
                    refine zr_iconst (pc := 153) hV 0 dX12_readSum_153 rfl ?_
                    refine zr_istore_n (pc := 154) hV [some (ZR 0), some (ZI x1_77), some (ZI x2_77), some (ZI 0), some (ZI r119)] dX12_readSum_154 rfl (by decide) rfl rfl ?_
                    refine zr_goto (pc := 155) hV 207 dX12_readSum_155 (by decide) ?_
                    show V 207 [some (ZR 0), some (ZI x1_77), some (ZI x2_77), some (ZI 0), some (ZI r119)] [] 41 σ152
                    refine zr_goto (pc := 207) hV 77 dX12_readSum_207 (by decide) ?_
                    have t65 := zx_g15 hσ152
                    have t66 : σ152 0 15 = σ139 0 15 := by rw [eσ152]; exact zq_up_ne (by omega)
                    have t67 : σ139 0 15 = (σ119 0 15) + 1 := by rw [eσ139]; exact zq_up_same _ _ _ _
                    have t68 := zx_g15 hσ152
                    have t69 : σ152 0 15 = σ139 0 15 := by rw [eσ152]; exact zq_up_ne (by omega)
                    have t70 : σ139 0 15 = (σ119 0 15) + 1 := by rw [eσ139]; exact zq_up_same _ _ _ _
                    refine zr_sub (pc := 77) hV [some (ZR 0), some (ZI x1_77), some (ZI x2_77), some (ZI 0), none] (⟨rfl, rfl, rfl, rfl, trivial⟩) ?_
                    exact ih77 x1_77 x2_77 0 σ152 (by omega) (by omega) (by omega) hσ152 hFσ152 (fun h => absurd h (by omega)) (fun _ => a152) (by omega) (by omega)
                · show V 95 [some (ZR 0), some (ZI x1_77), some (ZI x2_77), some (ZI x3_77), none] [ZI x1_77, ZR 29] 41 σ_77
                  refine zr_iload_n (pc := 95) hV dX12_readSum_95 rfl rfl ?_
                  refine zr_goto (pc := 96) hV 117 dX12_readSum_96 (by decide) ?_
                  show V 117 [some (ZR 0), some (ZI x1_77), some (ZI x2_77), some (ZI x3_77), none] [ZI x2_77, ZI x1_77, ZR 29] 41 σ_77
                  refine zr_iast (pc := 117) hV dX12_readSum_117 rfl (by decide) rfl (by omega) (fun σ117 eσ117 => ?_)
                  have hσ117 : zx_T σ117 := zx_ua29 eσ117 hσ_77 (by omega)
                  have hFσ117 : ∀ a i : Int, (¬ (a = 0 ∧ i = 15) ∧ ¬ (a = 0 ∧ i = 43) ∧ ¬ (a = 0 ∧ i = 44) ∧ a ≠ 25 ∧ a ≠ 26 ∧ a ≠ 27 ∧ a ≠ 28 ∧ a ≠ 29 ∧ a ≠ 30) → σ117 a i = σ a i := fun a i h => by rw [eσ117, zq_up_ne (fun q => h.2.2.2.2.2.2.2.1 q.1)]; exact hFσ_77 a i h
                  have c117 : zx_QC σ117 x1_77 := zx_QC_put (σ := σ_77) (by omega) (by omega) (fun i => by rw [eσ117]; exact zq_up_ne (by omega)) (fun i => by rw [eσ117]; exact zq_up_ne (by omega)) (fun i => by rw [eσ117]; exact zq_up_ne (by omega)) (by rw [eσ117]; exact zq_up_ne (by omega)) (by rw [eσ117]; exact zq_up_ne (by omega)) (fun i h => by rw [eσ117]; exact zq_up_ne (by omega)) (by rw [eσ117]; exact zq_up_same _ _ _ _) b77
                  refine zr_aload_n (pc := 118) hV dX12_readSum_118 rfl rfl ?_
                  refine zr_callVi (pc := 119) hV [] (st := []) (c_X12_next (σ := σ117) hσ117 ) dX12_readSum_119 mX12_203 rfl (by decide) (by decide) (Nat.le_of_ble_eq_true rfl) (Nat.le_refl _) (fun r119 σ119 hr119 pσ119 => ?_)
                  obtain ⟨hσ119, hfσ119, pσ119, wσ119⟩ := pσ119
                  have hFσ119 : ∀ a i : Int, (¬ (a = 0 ∧ i = 15) ∧ ¬ (a = 0 ∧ i = 43) ∧ ¬ (a = 0 ∧ i = 44) ∧ a ≠ 25 ∧ a ≠ 26 ∧ a ≠ 27 ∧ a ≠ 28 ∧ a ≠ 29 ∧ a ≠ 30) → σ119 a i = σ a i := fun a i h => (hfσ119 a i h.1).trans (hFσ117 a i h)
                  have t71 := zx_g14 hσ117
                  have t72 : σ117 0 14 = σ_77 0 14 := by rw [eσ117]; exact zq_up_ne (by omega)
                  have t73 : σ_77 0 14 = σ 0 14 := hFσ_77 _ _ (by omega)
                  have t74 := zx_g15 hσ117
                  have t75 : σ117 0 15 = σ_77 0 15 := by rw [eσ117]; exact zq_up_ne (by omega)
                  have t76 := zx_g15 hσ119
                  have c119 : zx_QC σ119 x1_77 := zx_QC_fr ⟨fun i => hfσ119 25 i (by omega), fun i => hfσ119 27 i (by omega), fun i => hfσ119 28 i (by omega), fun i => hfσ119 29 i (by omega), hfσ119 0 43 (by omega), hfσ119 0 44 (by omega)⟩ c117
                  refine zr_istore (pc := 122) hV [some (ZR 0), some (ZI x1_77), some (ZI x2_77), some (ZI x3_77), some (ZI r119)] dX12_readSum_122 (by decide) rfl rfl ?_
                  refine zr_iload (pc := 124) hV dX12_readSum_124 rfl ?_
                  refine zr_callSp (pc := 126) hV [ZI r119] (st := []) (c_X12_signOf (σ := σ119) r119 (by omega)) dX12_readSum_126 mX12_245 (by decide) (Nat.le_of_ble_eq_true rfl) (Nat.le_refl _) (fun r126 hr126 pr126 => ?_)
                  refine zr_if_le (pc := 129) hV 158 dX12_readSum_129 (by decide) (by omega) (fun c77 => ?_) (fun c77 => ?_)
                  · show V 158 [some (ZR 0), some (ZI x1_77), some (ZI x2_77), some (ZI x3_77), some (ZI r119)] [] 41 σ119
                    refine zr_iload (pc := 158) hV dX12_readSum_158 rfl ?_
                    refine zr_bipush (pc := 160) hV 41 dX12_readSum_160 (by decide) ?_
                    refine zr_icmp_ne (pc := 162) hV 192 dX12_readSum_162 (by decide) (by omega) ⟨by decide, by decide⟩ (fun c78 => ?_) (fun c78 => ?_)
                    · show V 192 [some (ZR 0), some (ZI x1_77), some (ZI x2_77), some (ZI x3_77), some (ZI r119)] [] 41 σ119
                      refine zr_iload (pc := 192) hV dX12_readSum_192 rfl ?_
                      refine zr_if_ge (pc := 194) hV 205 dX12_readSum_194 (by decide) (by omega) (fun c79 => ?_) (fun c79 => ?_)
                      · show V 205 [some (ZR 0), some (ZI x1_77), some (ZI x2_77), some (ZI x3_77), some (ZI r119)] [] 41 σ119
                        refine zr_iconst (pc := 205) hV 0 dX12_readSum_205 rfl ?_
                        show V 206 [some (ZR 0), some (ZI x1_77), some (ZI x2_77), some (ZI x3_77), some (ZI r119)] [ZI 0] 41 σ119
                        have t80 := zx_g43 hσ119
                        have t81 : σ119 0 43 = σ117 0 43 := hfσ119 _ _ (by omega)
                        have t82 : σ117 0 43 = σ_77 0 43 := by rw [eσ117]; exact zq_up_ne (by omega)
                        exact zr_zret (pc := 206) hV dX12_readSum_206 rfl rfl (by omega) ⟨_, rfl, ⟨by decide, by decide⟩, hσ119, hFσ119, (by omega), (show (0 : Int) = 1 → 1 ≤ σ119 0 43 ∧ σ119 0 43 ≤ 39 ∧ ∃ f, zx_tree (σ119 25) (σ119 27) (σ119 28) f (σ119 0 43) from (fun h => absurd h (by omega)))⟩
                      · show V 197 [some (ZR 0), some (ZI x1_77), some (ZI x2_77), some (ZI x3_77), some (ZI r119)] [] 41 σ119
                        refine zr_iload_n (pc := 197) hV dX12_readSum_197 rfl rfl ?_
                        refine zr_if_ne (pc := 198) hV 205 dX12_readSum_198 (by decide) (by omega) (fun c83 => ?_) (fun c83 => ?_)
                        · show V 205 [some (ZR 0), some (ZI x1_77), some (ZI x2_77), some (ZI x3_77), some (ZI r119)] [] 41 σ119
                          refine zr_iconst (pc := 205) hV 0 dX12_readSum_205 rfl ?_
                          show V 206 [some (ZR 0), some (ZI x1_77), some (ZI x2_77), some (ZI x3_77), some (ZI r119)] [ZI 0] 41 σ119
                          have t84 := zx_g43 hσ119
                          have t85 : σ119 0 43 = σ117 0 43 := hfσ119 _ _ (by omega)
                          have t86 : σ117 0 43 = σ_77 0 43 := by rw [eσ117]; exact zq_up_ne (by omega)
                          exact zr_zret (pc := 206) hV dX12_readSum_206 rfl rfl (by omega) ⟨_, rfl, ⟨by decide, by decide⟩, hσ119, hFσ119, (by omega), (show (0 : Int) = 1 → 1 ≤ σ119 0 43 ∧ σ119 0 43 ≤ 39 ∧ ∃ f, zx_tree (σ119 25) (σ119 27) (σ119 28) f (σ119 0 43) from (fun h => absurd h (by omega)))⟩
                        · show V 201 [some (ZR 0), some (ZI x1_77), some (ZI x2_77), some (ZI x3_77), some (ZI r119)] [] 41 σ119
                          refine zr_iconst (pc := 201) hV 1 dX12_readSum_201 rfl ?_
                          refine zr_goto (pc := 202) hV 206 dX12_readSum_202 (by decide) ?_
                          show V 206 [some (ZR 0), some (ZI x1_77), some (ZI x2_77), some (ZI x3_77), some (ZI r119)] [ZI 1] 41 σ119
                          have t87 := zx_g43 hσ119
                          have t88 : σ119 0 43 = σ117 0 43 := hfσ119 _ _ (by omega)
                          have t89 : σ117 0 43 = σ_77 0 43 := by rw [eσ117]; exact zq_up_ne (by omega)
                          exact zr_zret (pc := 206) hV dX12_readSum_206 rfl rfl (by omega) ⟨_, rfl, ⟨by decide, by decide⟩, hσ119, hFσ119, (by omega), (show (1 : Int) = 1 → 1 ≤ σ119 0 43 ∧ σ119 0 43 ≤ 39 ∧ ∃ f, zx_tree (σ119 25) (σ119 27) (σ119 28) f (σ119 0 43) from (fun _ => zx_QC_end (show zx_QC σ119 0 from (show x1_77 = 0 by omega) ▸ c119) (by have := zx_g44 hσ119; omega)))⟩
                    · show V 165 [some (ZR 0), some (ZI x1_77), some (ZI x2_77), some (ZI x3_77), some (ZI r119)] [] 41 σ119
                      refine zr_iload_n (pc := 165) hV dX12_readSum_165 rfl rfl ?_
                      refine zr_if_le (pc := 166) hV 192 dX12_readSum_166 (by decide) (by omega) (fun c90 => ?_) (fun c90 => ?_)
                      · show V 192 [some (ZR 0), some (ZI x1_77), some (ZI x2_77), some (ZI x3_77), some (ZI r119)] [] 41 σ119
                        refine zr_iload (pc := 192) hV dX12_readSum_192 rfl ?_
                        refine zr_if_ge (pc := 194) hV 205 dX12_readSum_194 (by decide) (by omega) (fun c91 => ?_) (fun c91 => ?_)
                        · show V 205 [some (ZR 0), some (ZI x1_77), some (ZI x2_77), some (ZI x3_77), some (ZI r119)] [] 41 σ119
                          refine zr_iconst (pc := 205) hV 0 dX12_readSum_205 rfl ?_
                          show V 206 [some (ZR 0), some (ZI x1_77), some (ZI x2_77), some (ZI x3_77), some (ZI r119)] [ZI 0] 41 σ119
                          have t92 := zx_g43 hσ119
                          have t93 : σ119 0 43 = σ117 0 43 := hfσ119 _ _ (by omega)
                          have t94 : σ117 0 43 = σ_77 0 43 := by rw [eσ117]; exact zq_up_ne (by omega)
                          exact zr_zret (pc := 206) hV dX12_readSum_206 rfl rfl (by omega) ⟨_, rfl, ⟨by decide, by decide⟩, hσ119, hFσ119, (by omega), (show (0 : Int) = 1 → 1 ≤ σ119 0 43 ∧ σ119 0 43 ≤ 39 ∧ ∃ f, zx_tree (σ119 25) (σ119 27) (σ119 28) f (σ119 0 43) from (fun h => absurd h (by omega)))⟩
                        · exfalso; omega
                      · show V 169 [some (ZR 0), some (ZI x1_77), some (ZI x2_77), some (ZI x3_77), some (ZI r119)] [] 41 σ119
                        refine zr_aload_n (pc := 169) hV dX12_readSum_169 rfl rfl ?_
                        refine zr_dup (pc := 170) hV dX12_readSum_170 (fun _ => rfl) ?_
                        refine zr_getI (pc := 171) hV 15 dX12_readSum_171 fX12_200 rfl rfl rfl (by decide) ?_
                        have t95 := zx_g15 hσ119
                        refine zr_iconst (pc := 174) hV 1 dX12_readSum_174 rfl ?_
                        refine zr_iadd (pc := 175) hV dX12_readSum_175 ?_
                        refine zr_putI (pc := 176) hV 15 dX12_readSum_176 fX12_200 rfl rfl rfl rfl (by decide) (fun σ176 eσ176 => ?_)
                        have hσ176 : zx_T σ176 := zx_u15 eσ176 hσ119 (by omega)
                        have hFσ176 : ∀ a i : Int, (¬ (a = 0 ∧ i = 15) ∧ ¬ (a = 0 ∧ i = 43) ∧ ¬ (a = 0 ∧ i = 44) ∧ a ≠ 25 ∧ a ≠ 26 ∧ a ≠ 27 ∧ a ≠ 28 ∧ a ≠ 29 ∧ a ≠ 30) → σ176 a i = σ a i := fun a i h => by rw [eσ176, zq_up_ne h.1]; exact hFσ119 a i h
                        have c176 : zx_QC σ176 x1_77 := zx_QC_fr ⟨fun i => by rw [eσ176, zq_up_ne (by omega)], fun i => by rw [eσ176, zq_up_ne (by omega)], fun i => by rw [eσ176, zq_up_ne (by omega)], fun i => by rw [eσ176, zq_up_ne (by omega)], by rw [eσ176, zq_up_ne (by omega)], by rw [eσ176, zq_up_ne (by omega)]⟩ c119
                        have v176 := c176.2.1
                        have w176 := c176.1
                        refine zr_aload_n (pc := 179) hV dX12_readSum_179 rfl rfl ?_
                        refine zr_getR (pc := 180) hV 49 29 dX12_readSum_180 fX12_111 rfl rfl rfl (by decide) (zx_g49 hσ176) (by omega) ?_
                        refine zr_iload_n (pc := 183) hV dX12_readSum_183 rfl rfl ?_
                        refine zr_iald (pc := 184) hV dX12_readSum_184 rfl (by decide) rfl (by omega) ?_
                        have t96 := zx_ga29 hσ176 x1_77
                        have t97 : σ176 29 x1_77 = σ119 29 x1_77 := by rw [eσ176]; exact zq_up_ne (by omega)
                        have t98 : σ119 29 x1_77 = σ117 29 x1_77 := hfσ119 _ _ (by omega)
                        have t99 : σ117 29 x1_77 = x2_77 := by rw [eσ117]; exact zq_up_same _ _ _ _
                        refine zr_istore_n (pc := 185) hV [some (ZR 0), some (ZI x1_77), some (ZI (σ176 29 x1_77)), some (ZI x3_77), some (ZI r119)] dX12_readSum_185 rfl (by decide) rfl rfl ?_
                        refine zr_iinc (pc := 186) hV [some (ZR 0), some (ZI (x1_77 + (-1))), some (ZI (σ176 29 x1_77)), some (ZI x3_77), some (ZI r119)] (x1_77 + (-1)) dX12_readSum_186 rfl rfl (by decide) rfl rfl ?_
                        have b176 : zx_QB σ176 (x1_77 + (-1)) (σ176 29 x1_77) := by rw [show x1_77 + (-1) = x1_77 - 1 by omega]; exact zx_QC_close (by omega) c176
                        refine zr_goto (pc := 189) hV 207 dX12_readSum_189 (by decide) ?_
                        show V 207 [some (ZR 0), some (ZI (x1_77 + (-1))), some (ZI (σ176 29 x1_77)), some (ZI x3_77), some (ZI r119)] [] 41 σ176
                        refine zr_goto (pc := 207) hV 77 dX12_readSum_207 (by decide) ?_
                        have t100 := zx_g15 hσ176
                        have t101 : σ176 0 15 = (σ119 0 15) + 1 := by rw [eσ176]; exact zq_up_same _ _ _ _
                        have t102 := zx_g15 hσ176
                        have t103 : σ176 0 15 = (σ119 0 15) + 1 := by rw [eσ176]; exact zq_up_same _ _ _ _
                        refine zr_sub (pc := 77) hV [some (ZR 0), some (ZI (x1_77 + (-1))), some (ZI (σ176 29 x1_77)), some (ZI x3_77), none] (⟨rfl, rfl, rfl, rfl, trivial⟩) ?_
                        exact ih77 (x1_77 + (-1)) (σ176 29 x1_77) x3_77 σ176 (by omega) (by omega) (by omega) hσ176 hFσ176 (fun _ => b176) (fun h => absurd h (by omega)) (by omega) (by omega)
                  · show V 132 [some (ZR 0), some (ZI x1_77), some (ZI x2_77), some (ZI x3_77), some (ZI r119)] [] 41 σ119
                    refine zr_aload_n (pc := 132) hV dX12_readSum_132 rfl rfl ?_
                    refine zr_dup (pc := 133) hV dX12_readSum_133 (fun _ => rfl) ?_
                    refine zr_getI (pc := 134) hV 15 dX12_readSum_134 fX12_200 rfl rfl rfl (by decide) ?_
                    have t104 := zx_g15 hσ119
                    refine zr_iconst (pc := 137) hV 1 dX12_readSum_137 rfl ?_
                    refine zr_iadd (pc := 138) hV dX12_readSum_138 ?_
                    refine zr_putI (pc := 139) hV 15 dX12_readSum_139 fX12_200 rfl rfl rfl rfl (by decide) (fun σ139 eσ139 => ?_)
                    have hσ139 : zx_T σ139 := zx_u15 eσ139 hσ119 (by omega)
                    have hFσ139 : ∀ a i : Int, (¬ (a = 0 ∧ i = 15) ∧ ¬ (a = 0 ∧ i = 43) ∧ ¬ (a = 0 ∧ i = 44) ∧ a ≠ 25 ∧ a ≠ 26 ∧ a ≠ 27 ∧ a ≠ 28 ∧ a ≠ 29 ∧ a ≠ 30) → σ139 a i = σ a i := fun a i h => by rw [eσ139, zq_up_ne h.1]; exact hFσ119 a i h
                    refine zr_aload_n (pc := 142) hV dX12_readSum_142 rfl rfl ?_
                    refine zr_getR (pc := 143) hV 50 30 dX12_readSum_143 fX12_114 rfl rfl rfl (by decide) (zx_g50 hσ139) (by omega) ?_
                    refine zr_iload_n (pc := 146) hV dX12_readSum_146 rfl rfl ?_
                    refine zr_iload (pc := 147) hV dX12_readSum_147 rfl ?_
                    refine zr_callSp (pc := 149) hV [ZI r119] (st := [ZI x1_77, ZR 30]) (c_X12_signOf (σ := σ139) r119 (by omega)) dX12_readSum_149 mX12_245 (by decide) (Nat.le_of_ble_eq_true rfl) (Nat.le_refl _) (fun r149 hr149 pr149 => ?_)
                    refine zr_iast (pc := 152) hV dX12_readSum_152 rfl (by decide) rfl (by omega) (fun σ152 eσ152 => ?_)
                    have hσ152 : zx_T σ152 := zx_ua30 eσ152 hσ139 (by omega)
                    have hFσ152 : ∀ a i : Int, (¬ (a = 0 ∧ i = 15) ∧ ¬ (a = 0 ∧ i = 43) ∧ ¬ (a = 0 ∧ i = 44) ∧ a ≠ 25 ∧ a ≠ 26 ∧ a ≠ 27 ∧ a ≠ 28 ∧ a ≠ 29 ∧ a ≠ 30) → σ152 a i = σ a i := fun a i h => by rw [eσ152, zq_up_ne (fun q => h.2.2.2.2.2.2.2.2 q.1)]; exact hFσ139 a i h
                    have a152 : zx_QA σ152 x1_77 := zx_QA_fr ⟨fun i => by rw [eσ152, zq_up_ne (by omega), eσ139, zq_up_ne (by omega)], fun i => by rw [eσ152, zq_up_ne (by omega), eσ139, zq_up_ne (by omega)], fun i => by rw [eσ152, zq_up_ne (by omega), eσ139, zq_up_ne (by omega)], fun i => by rw [eσ152, zq_up_ne (by omega), eσ139, zq_up_ne (by omega)], by rw [eσ152, zq_up_ne (by omega), eσ139, zq_up_ne (by omega)], by rw [eσ152, zq_up_ne (by omega), eσ139, zq_up_ne (by omega)]⟩ (zx_QC_A (by omega) c119)
                    refine zr_iconst (pc := 153) hV 0 dX12_readSum_153 rfl ?_
                    refine zr_istore_n (pc := 154) hV [some (ZR 0), some (ZI x1_77), some (ZI x2_77), some (ZI 0), some (ZI r119)] dX12_readSum_154 rfl (by decide) rfl rfl ?_
                    refine zr_goto (pc := 155) hV 207 dX12_readSum_155 (by decide) ?_
                    show V 207 [some (ZR 0), some (ZI x1_77), some (ZI x2_77), some (ZI 0), some (ZI r119)] [] 41 σ152
                    refine zr_goto (pc := 207) hV 77 dX12_readSum_207 (by decide) ?_
                    have t105 := zx_g15 hσ152
                    have t106 : σ152 0 15 = σ139 0 15 := by rw [eσ152]; exact zq_up_ne (by omega)
                    have t107 : σ139 0 15 = (σ119 0 15) + 1 := by rw [eσ139]; exact zq_up_same _ _ _ _
                    have t108 := zx_g15 hσ152
                    have t109 : σ152 0 15 = σ139 0 15 := by rw [eσ152]; exact zq_up_ne (by omega)
                    have t110 : σ139 0 15 = (σ119 0 15) + 1 := by rw [eσ139]; exact zq_up_same _ _ _ _
                    refine zr_sub (pc := 77) hV [some (ZR 0), some (ZI x1_77), some (ZI x2_77), some (ZI 0), none] (⟨rfl, rfl, rfl, rfl, trivial⟩) ?_
                    exact ih77 x1_77 x2_77 0 σ152 (by omega) (by omega) (by omega) hσ152 hFσ152 (fun h => absurd h (by omega)) (fun _ => a152) (by omega) (by omega)
          have t111 := zx_g15 hσ65
          have t112 := zx_g15 hσ65
          exact L77 (80 - σ65 0 15 + 1 : Int).toNat x1_24 r65 1 σ65 (by omega) (by omega) (by omega) hσ65 hFσ65 (fun _ => b65) (fun h => absurd h (by omega)) (by omega) (by omega)
        · show V 73 [some (ZR 0), some (ZI x1_24), some (ZI r65), none, none] [] 41 σ65
          refine zr_iconst (pc := 73) hV 0 dX12_readSum_73 rfl ?_
          have t113 := zx_g43 hσ65
          exact zr_zret (pc := 74) hV dX12_readSum_74 rfl rfl (by omega) ⟨_, rfl, ⟨by decide, by decide⟩, hσ65, hFσ65, (by omega), (show (0 : Int) = 1 → 1 ≤ σ65 0 43 ∧ σ65 0 43 ≤ 39 ∧ ∃ f, zx_tree (σ65 25) (σ65 27) (σ65 28) f (σ65 0 43) from (fun h => absurd h (by omega)))⟩
      · show V 33 [some (ZR 0), some (ZI x1_24), none, none, none] [] 41 σ25
        refine zr_iload_n (pc := 33) hV dX12_readSum_33 rfl rfl ?_
        refine zr_bipush (pc := 34) hV 6 dX12_readSum_34 (by decide) ?_
        refine zr_icmp_ne (pc := 36) hV 41 dX12_readSum_36 (by decide) (by omega) ⟨by decide, by decide⟩ (fun c114 => ?_) (fun c114 => ?_)
        · show V 41 [some (ZR 0), some (ZI x1_24), none, none, none] [] 41 σ25
          refine zr_aload_n (pc := 41) hV dX12_readSum_41 rfl rfl ?_
          refine zr_dup (pc := 42) hV dX12_readSum_42 (fun _ => rfl) ?_
          refine zr_getI (pc := 43) hV 15 dX12_readSum_43 fX12_200 rfl rfl rfl (by decide) ?_
          have t115 := zx_g15 hσ25
          refine zr_iconst (pc := 46) hV 1 dX12_readSum_46 rfl ?_
          refine zr_iadd (pc := 47) hV dX12_readSum_47 ?_
          refine zr_putI (pc := 48) hV 15 dX12_readSum_48 fX12_200 rfl rfl rfl rfl (by decide) (fun σ48 eσ48 => ?_)
          have hσ48 : zx_T σ48 := zx_u15 eσ48 hσ25 (by omega)
          have hFσ48 : ∀ a i : Int, (¬ (a = 0 ∧ i = 15) ∧ ¬ (a = 0 ∧ i = 43) ∧ ¬ (a = 0 ∧ i = 44) ∧ a ≠ 25 ∧ a ≠ 26 ∧ a ≠ 27 ∧ a ≠ 28 ∧ a ≠ 29 ∧ a ≠ 30) → σ48 a i = σ a i := fun a i h => by rw [eσ48, zq_up_ne h.1]; exact hFσ25 a i h
          refine zr_iinc (pc := 51) hV [some (ZR 0), some (ZI (x1_24 + 1)), none, none, none] (x1_24 + 1) dX12_readSum_51 rfl rfl (by decide) rfl rfl ?_
          refine zr_aload_n (pc := 54) hV dX12_readSum_54 rfl rfl ?_
          refine zr_getR (pc := 55) hV 49 29 dX12_readSum_55 fX12_111 rfl rfl rfl (by decide) (zx_g49 hσ48) (by omega) ?_
          refine zr_iload_n (pc := 58) hV dX12_readSum_58 rfl rfl ?_
          refine zr_iconst (pc := 59) hV (-1) dX12_readSum_59 rfl ?_
          refine zr_iast (pc := 60) hV dX12_readSum_60 rfl (by decide) rfl (by omega) (fun σ60 eσ60 => ?_)
          have hσ60 : zx_T σ60 := zx_ua29 eσ60 hσ48 (by omega)
          have hFσ60 : ∀ a i : Int, (¬ (a = 0 ∧ i = 15) ∧ ¬ (a = 0 ∧ i = 43) ∧ ¬ (a = 0 ∧ i = 44) ∧ a ≠ 25 ∧ a ≠ 26 ∧ a ≠ 27 ∧ a ≠ 28 ∧ a ≠ 29 ∧ a ≠ 30) → σ60 a i = σ a i := fun a i h => by rw [eσ60, zq_up_ne (fun q => h.2.2.2.2.2.2.2.1 q.1)]; exact hFσ48 a i h
          refine zr_goto (pc := 61) hV 24 dX12_readSum_61 (by decide) ?_
          have t116 := zx_g15 hσ60
          have t117 : σ60 0 15 = σ48 0 15 := by rw [eσ60]; exact zq_up_ne (by omega)
          have t118 : σ48 0 15 = (σ25 0 15) + 1 := by rw [eσ48]; exact zq_up_same _ _ _ _
          exact ih24 (x1_24 + 1) σ60 (by omega) hσ60 hFσ60 (zx_QA_open (σ := σ_24) (d := x1_24) (by omega) (fun i => by rw [eσ60, zq_up_ne (by omega), eσ48, zq_up_ne (by omega)]; exact hfσ25 25 i (by omega)) (fun i => by rw [eσ60, zq_up_ne (by omega), eσ48, zq_up_ne (by omega)]; exact hfσ25 27 i (by omega)) (fun i => by rw [eσ60, zq_up_ne (by omega), eσ48, zq_up_ne (by omega)]; exact hfσ25 28 i (by omega)) (by rw [eσ60, zq_up_ne (by omega), eσ48, zq_up_ne (by omega)]; exact hfσ25 0 43 (by omega)) (by rw [eσ60, zq_up_ne (by omega), eσ48, zq_up_ne (by omega)]; exact hfσ25 0 44 (by omega)) (fun i h => by rw [eσ60, zq_up_ne (by omega), eσ48, zq_up_ne (by omega)]; exact hfσ25 29 i (by omega)) (by rw [eσ60, zq_up_same]) hi24_0) (by omega)
        · show V 39 [some (ZR 0), some (ZI x1_24), none, none, none] [] 41 σ25
          refine zr_iconst (pc := 39) hV 0 dX12_readSum_39 rfl ?_
          have t119 := zx_g43 hσ25
          have t120 : σ25 0 43 = σ_24 0 43 := hfσ25 _ _ (by omega)
          exact zr_zret (pc := 40) hV dX12_readSum_40 rfl rfl (by omega) ⟨_, rfl, ⟨by decide, by decide⟩, hσ25, hFσ25, (by omega), (show (0 : Int) = 1 → 1 ≤ σ25 0 43 ∧ σ25 0 43 ≤ 39 ∧ ∃ f, zx_tree (σ25 25) (σ25 27) (σ25 28) f (σ25 0 43) from (fun h => absurd h (by omega)))⟩
  have t121 := zx_g15 hσ23
  have t122 : σ23 0 15 = σ12 0 15 := by rw [eσ23]; exact zq_up_ne (by omega)
  have t123 : σ12 0 15 = σ7 0 15 := by rw [eσ12]; exact zq_up_ne (by omega)
  have t124 : σ7 0 15 = σ2 0 15 := by rw [eσ7]; exact zq_up_ne (by omega)
  have t125 : σ2 0 15 = 0 := by rw [eσ2]; exact zq_up_same _ _ _ _
  exact L24 (80 - σ23 0 15 + 1 : Int).toNat 0 σ23 (by omega) hσ23 hFσ23 (zx_QA_0 (by rw [eσ23, zq_up_ne (by omega), eσ12, zq_up_ne (by omega)]; rw [eσ7, zq_up_same]) (by rw [eσ23, zq_up_ne (by omega), eσ12, zq_up_same]) (by rw [eσ23, zq_up_same])) (by omega)
