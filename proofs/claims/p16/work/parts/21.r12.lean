set_option maxHeartbeats 800000 in
theorem c_X12_readLeaf {σ : zq_S} (hσ : zx_T σ) (q0 : σ 0 43 ≤ 2 * σ 0 44) : zq_C zx_w yX12_readLeaf cX12_readLeaf 3 (some .int) 2 49 41 41 [ZR 0] σ (zq_pi (fun r τ => zx_T τ ∧ (∀ a i : Int, (¬ (a = 0 ∧ i = 15) ∧ ¬ (a = 0 ∧ i = 43) ∧ ¬ (a = 0 ∧ i = 44) ∧ a ≠ 25 ∧ a ≠ 26 ∧ a ≠ 27 ∧ a ≠ 28) → τ a i = σ a i) ∧ (-1 ≤ r ∧ r ≤ 39 ∧ σ 0 15 ≤ τ 0 15) ∧ zq_hid (0 ≤ r → r = σ 0 43 ∧ τ 0 43 = σ 0 43 + 1 ∧ τ 0 44 = σ 0 44 + 1 ∧ σ 0 15 < τ 0 15))) := by
  refine zq_C_of (by decide) (Nat.le_refl _) (Nat.le_of_ble_eq_true rfl) [some (ZR 0), none, none] rfl (fun V hV => ?_)
  have z35 := zx_g35 hσ
  have z44 := zx_g44 hσ
  show V 0 [some (ZR 0), none, none] [] 41 σ
  refine zr_aload_n (pc := 0) hV dX12_readLeaf_0 rfl rfl ?_
  refine zr_callVi (pc := 1) hV [] (st := []) (c_X12_next (σ := σ) hσ ) dX12_readLeaf_1 mX12_203 rfl (by decide) (by decide) (Nat.le_of_ble_eq_true rfl) (Nat.le_refl _) (fun r1 σ1 hr1 pσ1 => ?_)
  obtain ⟨hσ1, hfσ1, pσ1, wσ1⟩ := pσ1
  have hFσ1 : ∀ a i : Int, (¬ (a = 0 ∧ i = 15) ∧ ¬ (a = 0 ∧ i = 43) ∧ ¬ (a = 0 ∧ i = 44) ∧ a ≠ 25 ∧ a ≠ 26 ∧ a ≠ 27 ∧ a ≠ 28) → σ1 a i = σ a i := fun a i h => (hfσ1 a i h.1)
  have t1 := zx_g14 hσ
  have t2 := zx_g15 hσ
  have t3 := zx_g15 hσ1
  refine zr_istore_n (pc := 4) hV [some (ZR 0), some (ZI r1), none] dX12_readLeaf_4 rfl (by decide) rfl rfl ?_
  refine zr_iload_n (pc := 5) hV dX12_readLeaf_5 rfl rfl ?_
  refine zr_i2l (pc := 6) hV dX12_readLeaf_6 (by omega) ?_
  refine zr_ldc2 (pc := 7) (v := 97) hV 97 dX12_readLeaf_7 kX12_214 (by decide) ?_
  refine zr_bipush (pc := 10) hV 97 dX12_readLeaf_10 (by decide) ?_
  refine zr_aload_n (pc := 12) hV dX12_readLeaf_12 rfl rfl ?_
  refine zr_getI (pc := 13) hV 35 dX12_readLeaf_13 fX12_84 rfl rfl rfl (by decide) ?_
  have t4 := zx_g35 hσ1
  have t5 : σ1 0 35 = σ 0 35 := hfσ1 _ _ (by omega)
  refine zr_iadd (pc := 16) hV dX12_readLeaf_16 ?_
  refine zr_iconst (pc := 17) hV 1 dX12_readLeaf_17 rfl ?_
  refine zr_isub (pc := 18) hV dX12_readLeaf_18 ?_
  refine zr_i2l (pc := 19) hV dX12_readLeaf_19 (by omega) ?_
  refine zr_callSp (pc := 20) hV [ZL r1, ZL 97, ZL ((97 + (σ1 0 35)) - 1)] (st := []) (c_X12_in (σ := σ1) r1 97 ((97 + (σ1 0 35)) - 1) (by omega) (by omega) (by omega)) dX12_readLeaf_20 mX12_170 (by decide) (Nat.le_of_ble_eq_true rfl) (Nat.le_refl _) (fun r20 hr20 pr20 => ?_)
  have J40 : ((97 ≤ r1 ∧ r1 ≤ 96 + σ1 0 35) ∨ (48 ≤ r1 ∧ r1 ≤ 57)) → V 40 [some (ZR 0), some (ZI r1), none] [] 41 σ1 := by
    intro hi40_0
    show V 40 [some (ZR 0), some (ZI r1), none] [] 41 σ1
    refine zr_aload_n (pc := 40) hV dX12_readLeaf_40 rfl rfl ?_
    refine zr_getI (pc := 41) hV 44 dX12_readLeaf_41 fX12_409 rfl rfl rfl (by decide) ?_
    have t6 := zx_g44 hσ1
    have t7 : σ1 0 44 = σ 0 44 := hfσ1 _ _ (by omega)
    refine zr_bipush (pc := 44) hV 20 dX12_readLeaf_44 (by decide) ?_
    refine zr_icmp_ne (pc := 46) hV 51 dX12_readLeaf_46 (by decide) (by omega) ⟨by decide, by decide⟩ (fun c8 => ?_) (fun c8 => ?_)
    · show V 51 [some (ZR 0), some (ZI r1), none] [] 41 σ1
      refine zr_aload_n (pc := 51) hV dX12_readLeaf_51 rfl rfl ?_
      refine zr_dup (pc := 52) hV dX12_readLeaf_52 (fun _ => rfl) ?_
      refine zr_getI (pc := 53) hV 44 dX12_readLeaf_53 fX12_409 rfl rfl rfl (by decide) ?_
      have t9 := zx_g44 hσ1
      have t10 : σ1 0 44 = σ 0 44 := hfσ1 _ _ (by omega)
      refine zr_iconst (pc := 56) hV 1 dX12_readLeaf_56 rfl ?_
      refine zr_iadd (pc := 57) hV dX12_readLeaf_57 ?_
      refine zr_putI (pc := 58) hV 44 dX12_readLeaf_58 fX12_409 rfl rfl rfl rfl (by decide) (fun σ58 eσ58 => ?_)
      have hσ58 : zx_T σ58 := zx_u44 eσ58 hσ1 (by omega)
      have hFσ58 : ∀ a i : Int, (¬ (a = 0 ∧ i = 15) ∧ ¬ (a = 0 ∧ i = 43) ∧ ¬ (a = 0 ∧ i = 44) ∧ a ≠ 25 ∧ a ≠ 26 ∧ a ≠ 27 ∧ a ≠ 28) → σ58 a i = σ a i := fun a i h => by rw [eσ58, zq_up_ne h.2.2.1]; exact hFσ1 a i h
      refine zr_iload_n (pc := 61) hV dX12_readLeaf_61 rfl rfl ?_
      refine zr_bipush (pc := 62) hV 97 dX12_readLeaf_62 (by decide) ?_
      refine zr_icmp_lt (pc := 64) hV 89 dX12_readLeaf_64 (by decide) (by omega) ⟨by decide, by decide⟩ (fun c11 => ?_) (fun c11 => ?_)
      · show V 89 [some (ZR 0), some (ZI r1), none] [] 41 σ58
        refine zr_aload_n (pc := 89) hV dX12_readLeaf_89 rfl rfl ?_
        refine zr_sipush (pc := 90) hV 255 dX12_readLeaf_90 (by decide) ?_
        refine zr_callVi (pc := 93) hV [ZI 255] (st := []) (c_X12_number (σ := σ58) hσ58 255 (by omega)) dX12_readLeaf_93 mX12_238 rfl (by decide) (by decide) (Nat.le_of_ble_eq_true rfl) (Nat.le_refl _) (fun r93 σ93 hr93 pσ93 => ?_)
        obtain ⟨hσ93, hfσ93, pσ93⟩ := pσ93
        have hFσ93 : ∀ a i : Int, (¬ (a = 0 ∧ i = 15) ∧ ¬ (a = 0 ∧ i = 43) ∧ ¬ (a = 0 ∧ i = 44) ∧ a ≠ 25 ∧ a ≠ 26 ∧ a ≠ 27 ∧ a ≠ 28) → σ93 a i = σ a i := fun a i h => (hfσ93 a i h.1).trans (hFσ58 a i h)
        have t12 := zx_g15 hσ58
        have t13 : σ58 0 15 = σ1 0 15 := by rw [eσ58]; exact zq_up_ne (by omega)
        have t14 := zx_g15 hσ93
        refine zr_istore_n (pc := 96) hV [some (ZR 0), some (ZI r1), some (ZI r93)] dX12_readLeaf_96 rfl (by decide) rfl rfl ?_
        refine zr_iload_n (pc := 97) hV dX12_readLeaf_97 rfl rfl ?_
        refine zr_if_ge (pc := 98) hV 105 dX12_readLeaf_98 (by decide) (by omega) (fun c15 => ?_) (fun c15 => ?_)
        · show V 105 [some (ZR 0), some (ZI r1), some (ZI r93)] [] 41 σ93
          refine zr_aload_n (pc := 105) hV dX12_readLeaf_105 rfl rfl ?_
          refine zr_iconst (pc := 106) hV 1 dX12_readLeaf_106 rfl ?_
          refine zr_iload_n (pc := 107) hV dX12_readLeaf_107 rfl rfl ?_
          refine zr_aload_n (pc := 108) hV dX12_readLeaf_108 rfl rfl ?_
          refine zr_callVp (pc := 109) hV [] (st := [ZI r93, ZI 1, ZR 0]) (c_X12_mask (σ := σ93) hσ93 ) dX12_readLeaf_109 mX12_346 rfl (by decide) (by decide) (Nat.le_of_ble_eq_true rfl) (Nat.le_refl _) (fun r109 hr109 pr109 => ?_)
          refine zr_iand (pc := 112) hV dX12_readLeaf_112 ?_
          have t16 := zq_and_nnR (x := r93) (y := r109) (by omega)
          refine zr_iconst (pc := 113) hV 0 dX12_readLeaf_113 rfl ?_
          refine zr_iconst (pc := 114) hV 0 dX12_readLeaf_114 rfl ?_
          have t17 := zx_g43 hσ93
          have t18 : σ93 0 43 = σ58 0 43 := hfσ93 _ _ (by omega)
          have t19 : σ58 0 43 = σ1 0 43 := by rw [eσ58]; exact zq_up_ne (by omega)
          have t20 : σ1 0 43 = σ 0 43 := hfσ1 _ _ (by omega)
          refine zr_callVi (pc := 115) hV [ZI 1, ZI (zq_and r93 r109), ZI 0, ZI 0] (st := []) (c_X12_addNode (σ := σ93) hσ93 1 (zq_and r93 r109) 0 0 (by omega) (by omega) (by omega) (by omega) (by omega)) dX12_readLeaf_115 mX12_412 rfl (by decide) (by decide) (Nat.le_of_ble_eq_true rfl) (Nat.le_refl _) (fun r115 σ115 hr115 pσ115 => ?_)
          obtain ⟨hσ115, hfσ115, pσ115⟩ := pσ115
          have hFσ115 : ∀ a i : Int, (¬ (a = 0 ∧ i = 15) ∧ ¬ (a = 0 ∧ i = 43) ∧ ¬ (a = 0 ∧ i = 44) ∧ a ≠ 25 ∧ a ≠ 26 ∧ a ≠ 27 ∧ a ≠ 28) → σ115 a i = σ a i := fun a i h => (hfσ115 a i ⟨h.2.1, h.2.2.2.1, h.2.2.2.2.1, h.2.2.2.2.2.1, h.2.2.2.2.2.2⟩).trans (hFσ93 a i h)
          have t21 := zx_g43 hσ93
          have t22 : σ93 0 43 = σ58 0 43 := hfσ93 _ _ (by omega)
          have t23 : σ58 0 43 = σ1 0 43 := by rw [eσ58]; exact zq_up_ne (by omega)
          have t24 : σ1 0 43 = σ 0 43 := hfσ1 _ _ (by omega)
          have t25 := zx_g43 hσ115
          show V 118 [some (ZR 0), some (ZI r1), some (ZI r93)] [ZI r115] 41 σ115
          have t26 := zx_g15 hσ115
          have t27 : σ115 0 15 = σ93 0 15 := hfσ115 _ _ (by omega)
          have t28 := zx_g43 hσ115
          have t29 := zx_g44 hσ115
          have t30 : σ115 0 44 = σ93 0 44 := hfσ115 _ _ (by omega)
          have t31 : σ93 0 44 = σ58 0 44 := hfσ93 _ _ (by omega)
          have t32 : σ58 0 44 = (σ1 0 44) + 1 := by rw [eσ58]; exact zq_up_same _ _ _ _
          have t33 := zx_g15 hσ115
          have t34 : σ115 0 15 = σ93 0 15 := hfσ115 _ _ (by omega)
          exact zr_iret (pc := 118) hV dX12_readLeaf_118 rfl rfl ⟨_, rfl, (by omega), hσ115, hFσ115, (by omega), (show 0 ≤ r115 → r115 = σ 0 43 ∧ σ115 0 43 = σ 0 43 + 1 ∧ σ115 0 44 = σ 0 44 + 1 ∧ σ 0 15 < σ115 0 15 from (by omega))⟩
        · show V 101 [some (ZR 0), some (ZI r1), some (ZI r93)] [] 41 σ93
          refine zr_iconst (pc := 101) hV (-1) dX12_readLeaf_101 rfl ?_
          refine zr_goto (pc := 102) hV 118 dX12_readLeaf_102 (by decide) ?_
          show V 118 [some (ZR 0), some (ZI r1), some (ZI r93)] [ZI (-1)] 41 σ93
          have t35 := zx_g15 hσ93
          have t36 := zx_g43 hσ93
          have t37 : σ93 0 43 = σ58 0 43 := hfσ93 _ _ (by omega)
          have t38 : σ58 0 43 = σ1 0 43 := by rw [eσ58]; exact zq_up_ne (by omega)
          have t39 : σ1 0 43 = σ 0 43 := hfσ1 _ _ (by omega)
          have t40 := zx_g44 hσ93
          have t41 : σ93 0 44 = σ58 0 44 := hfσ93 _ _ (by omega)
          have t42 : σ58 0 44 = (σ1 0 44) + 1 := by rw [eσ58]; exact zq_up_same _ _ _ _
          have t43 := zx_g15 hσ93
          exact zr_iret (pc := 118) hV dX12_readLeaf_118 rfl rfl ⟨_, rfl, ⟨by decide, by decide⟩, hσ93, hFσ93, (by omega), (show 0 ≤ ((-1) : Int) → ((-1) : Int) = σ 0 43 ∧ σ93 0 43 = σ 0 43 + 1 ∧ σ93 0 44 = σ 0 44 + 1 ∧ σ 0 15 < σ93 0 15 from (by omega))⟩
      · show V 67 [some (ZR 0), some (ZI r1), none] [] 41 σ58
        refine zr_aload_n (pc := 67) hV dX12_readLeaf_67 rfl rfl ?_
        refine zr_dup (pc := 68) hV dX12_readLeaf_68 (fun _ => rfl) ?_
        refine zr_getI (pc := 69) hV 15 dX12_readLeaf_69 fX12_200 rfl rfl rfl (by decide) ?_
        have t44 := zx_g15 hσ58
        have t45 : σ58 0 15 = σ1 0 15 := by rw [eσ58]; exact zq_up_ne (by omega)
        refine zr_iconst (pc := 72) hV 1 dX12_readLeaf_72 rfl ?_
        refine zr_iadd (pc := 73) hV dX12_readLeaf_73 ?_
        refine zr_putI (pc := 74) hV 15 dX12_readLeaf_74 fX12_200 rfl rfl rfl rfl (by decide) (fun σ74 eσ74 => ?_)
        have hσ74 : zx_T σ74 := zx_u15 eσ74 hσ58 (by omega)
        have hFσ74 : ∀ a i : Int, (¬ (a = 0 ∧ i = 15) ∧ ¬ (a = 0 ∧ i = 43) ∧ ¬ (a = 0 ∧ i = 44) ∧ a ≠ 25 ∧ a ≠ 26 ∧ a ≠ 27 ∧ a ≠ 28) → σ74 a i = σ a i := fun a i h => by rw [eσ74, zq_up_ne h.1]; exact hFσ58 a i h
        refine zr_aload_n (pc := 77) hV dX12_readLeaf_77 rfl rfl ?_
        refine zr_iconst (pc := 78) hV 0 dX12_readLeaf_78 rfl ?_
        refine zr_iload_n (pc := 79) hV dX12_readLeaf_79 rfl rfl ?_
        refine zr_bipush (pc := 80) hV 97 dX12_readLeaf_80 (by decide) ?_
        refine zr_isub (pc := 82) hV dX12_readLeaf_82 ?_
        refine zr_iconst (pc := 83) hV 0 dX12_readLeaf_83 rfl ?_
        refine zr_iconst (pc := 84) hV 0 dX12_readLeaf_84 rfl ?_
        have t46 := zx_g43 hσ74
        have t47 : σ74 0 43 = σ58 0 43 := by rw [eσ74]; exact zq_up_ne (by omega)
        have t48 : σ58 0 43 = σ1 0 43 := by rw [eσ58]; exact zq_up_ne (by omega)
        have t49 : σ1 0 43 = σ 0 43 := hfσ1 _ _ (by omega)
        refine zr_callVi (pc := 85) hV [ZI 0, ZI (r1 - 97), ZI 0, ZI 0] (st := []) (c_X12_addNode (σ := σ74) hσ74 0 (r1 - 97) 0 0 (by omega) (by omega) (by omega) (by omega) (by omega)) dX12_readLeaf_85 mX12_412 rfl (by decide) (by decide) (Nat.le_of_ble_eq_true rfl) (Nat.le_refl _) (fun r85 σ85 hr85 pσ85 => ?_)
        obtain ⟨hσ85, hfσ85, pσ85⟩ := pσ85
        have hFσ85 : ∀ a i : Int, (¬ (a = 0 ∧ i = 15) ∧ ¬ (a = 0 ∧ i = 43) ∧ ¬ (a = 0 ∧ i = 44) ∧ a ≠ 25 ∧ a ≠ 26 ∧ a ≠ 27 ∧ a ≠ 28) → σ85 a i = σ a i := fun a i h => (hfσ85 a i ⟨h.2.1, h.2.2.2.1, h.2.2.2.2.1, h.2.2.2.2.2.1, h.2.2.2.2.2.2⟩).trans (hFσ74 a i h)
        have t50 := zx_g43 hσ74
        have t51 : σ74 0 43 = σ58 0 43 := by rw [eσ74]; exact zq_up_ne (by omega)
        have t52 : σ58 0 43 = σ1 0 43 := by rw [eσ58]; exact zq_up_ne (by omega)
        have t53 : σ1 0 43 = σ 0 43 := hfσ1 _ _ (by omega)
        have t54 := zx_g43 hσ85
        have t55 := zx_g15 hσ85
        have t56 : σ85 0 15 = σ74 0 15 := hfσ85 _ _ (by omega)
        have t57 : σ74 0 15 = (σ58 0 15) + 1 := by rw [eσ74]; exact zq_up_same _ _ _ _
        have t58 := zx_g43 hσ85
        have t59 := zx_g44 hσ85
        have t60 : σ85 0 44 = σ74 0 44 := hfσ85 _ _ (by omega)
        have t61 : σ74 0 44 = σ58 0 44 := by rw [eσ74]; exact zq_up_ne (by omega)
        have t62 : σ58 0 44 = (σ1 0 44) + 1 := by rw [eσ58]; exact zq_up_same _ _ _ _
        have t63 := zx_g15 hσ85
        have t64 : σ85 0 15 = σ74 0 15 := hfσ85 _ _ (by omega)
        have t65 : σ74 0 15 = (σ58 0 15) + 1 := by rw [eσ74]; exact zq_up_same _ _ _ _
        exact zr_iret (pc := 88) hV dX12_readLeaf_88 rfl rfl ⟨_, rfl, (by omega), hσ85, hFσ85, (by omega), (show 0 ≤ r85 → r85 = σ 0 43 ∧ σ85 0 43 = σ 0 43 + 1 ∧ σ85 0 44 = σ 0 44 + 1 ∧ σ 0 15 < σ85 0 15 from (by omega))⟩
    · show V 49 [some (ZR 0), some (ZI r1), none] [] 41 σ1
      refine zr_iconst (pc := 49) hV (-1) dX12_readLeaf_49 rfl ?_
      have t66 := zx_g15 hσ1
      have t67 := zx_g43 hσ1
      have t68 : σ1 0 43 = σ 0 43 := hfσ1 _ _ (by omega)
      have t69 := zx_g44 hσ1
      have t70 : σ1 0 44 = σ 0 44 := hfσ1 _ _ (by omega)
      have t71 := zx_g15 hσ1
      exact zr_iret (pc := 50) hV dX12_readLeaf_50 rfl rfl ⟨_, rfl, ⟨by decide, by decide⟩, hσ1, hFσ1, (by omega), (show 0 ≤ ((-1) : Int) → ((-1) : Int) = σ 0 43 ∧ σ1 0 43 = σ 0 43 + 1 ∧ σ1 0 44 = σ 0 44 + 1 ∧ σ 0 15 < σ1 0 15 from (by omega))⟩
  refine zr_if_ne (pc := 23) hV 40 dX12_readLeaf_23 (by decide) (by omega) (fun c72 => ?_) (fun c72 => ?_)
  · have t73 := zx_g35 hσ1
    have t74 : σ1 0 35 = σ 0 35 := hfσ1 _ _ (by omega)
    exact J40 (by omega)
  · show V 26 [some (ZR 0), some (ZI r1), none] [] 41 σ1
    refine zr_iload_n (pc := 26) hV dX12_readLeaf_26 rfl rfl ?_
    refine zr_i2l (pc := 27) hV dX12_readLeaf_27 (by omega) ?_
    refine zr_ldc2 (pc := 28) (v := 48) hV 48 dX12_readLeaf_28 kX12_207 (by decide) ?_
    refine zr_ldc2 (pc := 31) (v := 57) hV 57 dX12_readLeaf_31 kX12_209 (by decide) ?_
    refine zr_callSp (pc := 34) hV [ZL r1, ZL 48, ZL 57] (st := []) (c_X12_in (σ := σ1) r1 48 57 (by omega) (by omega) (by omega)) dX12_readLeaf_34 mX12_170 (by decide) (Nat.le_of_ble_eq_true rfl) (Nat.le_refl _) (fun r34 hr34 pr34 => ?_)
    refine zr_if_eq (pc := 37) hV 49 dX12_readLeaf_37 (by decide) (by omega) (fun c75 => ?_) (fun c75 => ?_)
    · show V 49 [some (ZR 0), some (ZI r1), none] [] 41 σ1
      refine zr_iconst (pc := 49) hV (-1) dX12_readLeaf_49 rfl ?_
      have t76 := zx_g15 hσ1
      have t77 := zx_g43 hσ1
      have t78 : σ1 0 43 = σ 0 43 := hfσ1 _ _ (by omega)
      have t79 := zx_g44 hσ1
      have t80 : σ1 0 44 = σ 0 44 := hfσ1 _ _ (by omega)
      have t81 := zx_g15 hσ1
      exact zr_iret (pc := 50) hV dX12_readLeaf_50 rfl rfl ⟨_, rfl, ⟨by decide, by decide⟩, hσ1, hFσ1, (by omega), (show 0 ≤ ((-1) : Int) → ((-1) : Int) = σ 0 43 ∧ σ1 0 43 = σ 0 43 + 1 ∧ σ1 0 44 = σ 0 44 + 1 ∧ σ 0 15 < σ1 0 15 from (by omega))⟩
    · have t82 := zx_g35 hσ1
      have t83 : σ1 0 35 = σ 0 35 := hfσ1 _ _ (by omega)
      exact J40 (by omega)
