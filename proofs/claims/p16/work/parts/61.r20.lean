set_option maxHeartbeats 800000 in
theorem c_X12_join {σ : zq_S} (hσ : zx_T σ) (a c : Int) (q0 : zq_in a) (q1 : zq_in c) (Mσ : zx_M σ) (Oσ : zx_O σ) (Tσ : zx_TK σ) : zq_C zx_w yX12_join cX12_join 6 (some .int) 4 100 41 41 [ZR 0, ZI a, ZI c] σ (zq_pi (fun r τ => zx_T τ ∧ (∀ a i : Int, (¬ (a = 0 ∧ i = 14) ∧ ¬ (a = 0 ∧ i = 15) ∧ ¬ (a = 0 ∧ i = 16) ∧ ¬ (a = 0 ∧ i = 3) ∧ ¬ (a = 0 ∧ i = 30) ∧ ¬ (a = 0 ∧ i = 61) ∧ ¬ (a = 1 ∧ i = (σ 0 3)) ∧ a ≠ 18 ∧ ¬ (a = 2 ∧ 12 * (σ 0 3) ≤ i) ∧ ¬ (a = 3 ∧ i = (σ 0 3)) ∧ ¬ (a = 4 ∧ i = (σ 0 3)) ∧ ¬ (a = 5 ∧ i = (σ 0 3)) ∧ ¬ (a = 6 ∧ 18 * (σ 0 3) ≤ i) ∧ ¬ (a = 7 ∧ i = (σ 0 3)) ∧ a ≠ 8 ∧ a ≠ 9) → τ a i = σ a i) ∧ (True) ∧ zx_M τ ∧ zx_O τ ∧ zx_TK τ)) := by
  refine zq_C_of (by decide) (Nat.le_refl _) (Nat.le_of_ble_eq_true rfl) [some (ZR 0), some (ZI a), some (ZI c), none, none, none] rfl (fun V hV => ?_)
  have z3 := zx_g3 hσ
  show V 0 [some (ZR 0), some (ZI a), some (ZI c), none, none, none] [] 41 σ
  refine zr_aload_n (pc := 0) hV dX12_join_0 rfl rfl ?_
  refine zr_iload_n (pc := 1) hV dX12_join_1 rfl rfl ?_
  refine zr_callVp (pc := 2) hV [ZI a] (st := []) (c_X12_isOrder (σ := σ) hσ a (by omega)) dX12_join_2 mX12_271 rfl (by decide) (by decide) (Nat.le_of_ble_eq_true rfl) (Nat.le_refl _) (fun r2 hr2 pr2 => ?_)
  have t1 := zx_g3 hσ
  refine zr_if_eq (pc := 5) hV 16 dX12_join_5 (by decide) (by omega) (fun c2 => ?_) (fun c2 => ?_)
  · show V 16 [some (ZR 0), some (ZI a), some (ZI c), none, none, none] [] 41 σ
    refine zr_iconst (pc := 16) hV (-1) dX12_join_16 rfl ?_
    exact zr_iret (pc := 17) hV dX12_join_17 rfl rfl ⟨_, rfl, ⟨by decide, by decide⟩, hσ, (fun a i _ => rfl), trivial, Mσ, Oσ, Tσ⟩
  · show V 8 [some (ZR 0), some (ZI a), some (ZI c), none, none, none] [] 41 σ
    refine zr_aload_n (pc := 8) hV dX12_join_8 rfl rfl ?_
    refine zr_iload_n (pc := 9) hV dX12_join_9 rfl rfl ?_
    refine zr_callVp (pc := 10) hV [ZI c] (st := []) (c_X12_isOrder (σ := σ) hσ c (by omega)) dX12_join_10 mX12_271 rfl (by decide) (by decide) (Nat.le_of_ble_eq_true rfl) (Nat.le_refl _) (fun r10 hr10 pr10 => ?_)
    have t3 := zx_g3 hσ
    refine zr_if_ne (pc := 13) hV 18 dX12_join_13 (by decide) (by omega) (fun c4 => ?_) (fun c4 => ?_)
    · show V 18 [some (ZR 0), some (ZI a), some (ZI c), none, none, none] [] 41 σ
      refine zr_aload_n (pc := 18) hV dX12_join_18 rfl rfl ?_
      refine zr_iconst (pc := 19) hV 0 dX12_join_19 rfl ?_
      refine zr_putI (pc := 20) hV 15 dX12_join_20 fX12_200 rfl rfl rfl rfl (by decide) (fun σ20 eσ20 => ?_)
      have hσ20 : zx_T σ20 := zx_u15 eσ20 hσ (by omega)
      have hFσ20 : ∀ a i : Int, (¬ (a = 0 ∧ i = 14) ∧ ¬ (a = 0 ∧ i = 15) ∧ ¬ (a = 0 ∧ i = 16) ∧ ¬ (a = 0 ∧ i = 3) ∧ ¬ (a = 0 ∧ i = 30) ∧ ¬ (a = 0 ∧ i = 61) ∧ ¬ (a = 1 ∧ i = (σ 0 3)) ∧ a ≠ 18 ∧ ¬ (a = 2 ∧ 12 * (σ 0 3) ≤ i) ∧ ¬ (a = 3 ∧ i = (σ 0 3)) ∧ ¬ (a = 4 ∧ i = (σ 0 3)) ∧ ¬ (a = 5 ∧ i = (σ 0 3)) ∧ ¬ (a = 6 ∧ 18 * (σ 0 3) ≤ i) ∧ ¬ (a = 7 ∧ i = (σ 0 3)) ∧ a ≠ 8 ∧ a ≠ 9) → σ20 a i = σ a i := fun a i h => by rw [eσ20, zq_up_ne h.2.1]
      have Mσ20 : zx_M σ20 := zx_M_fr (fun i => by rw [eσ20]; exact zq_up_ne (by omega)) (by rw [eσ20]; exact zq_up_ne (by omega)) (by rw [eσ20]; exact zq_up_ne (by omega)) (by rw [eσ20]; exact zq_up_ne (by omega)) Mσ
      have Oσ20 : zx_O σ20 := zx_O_fr (fun i => by rw [eσ20]; exact zq_up_ne (by omega)) (fun i => by rw [eσ20]; exact zq_up_ne (by omega)) (fun i => by rw [eσ20]; exact zq_up_ne (by omega)) (by rw [eσ20]; exact zq_up_ne (by omega)) (by rw [eσ20]; exact zq_up_ne (by omega)) Oσ
      have Tσ20 : zx_TK σ20 := zx_TK_fr (fun i => by rw [eσ20]; exact zq_up_ne (by omega)) (by rw [eσ20]; exact zq_up_ne (by omega)) Tσ
      refine zr_aload_n (pc := 23) hV dX12_join_23 rfl rfl ?_
      refine zr_callVi (pc := 24) hV [] (st := []) (c_X12_readNewName (σ := σ20) hσ20 ) dX12_join_24 mX12_248 rfl (by decide) (by decide) (Nat.le_of_ble_eq_true rfl) (Nat.le_refl _) (fun r24 σ24 hr24 pσ24 => ?_)
      obtain ⟨hσ24, hfσ24, pσ24⟩ := pσ24
      have Mσ24 : zx_M σ24 := zx_M_fr (fun i => hfσ24 18 i (by omega)) (hfσ24 0 30 (by omega)) (hfσ24 0 2 (by omega)) (hfσ24 0 3 (by omega)) Mσ20
      have Oσ24 : zx_O σ24 := zx_O_fr (fun i => hfσ24 2 i (by omega)) (fun i => hfσ24 5 i (by omega)) (fun i => hfσ24 6 i (by omega)) (hfσ24 0 2 (by omega)) (hfσ24 0 3 (by omega)) Oσ20
      have Tσ24 : zx_TK σ24 := zx_TK_fr (fun i => hfσ24 7 i (by omega)) (hfσ24 0 3 (by omega)) Tσ20
      have hFσ24 : ∀ a i : Int, (¬ (a = 0 ∧ i = 14) ∧ ¬ (a = 0 ∧ i = 15) ∧ ¬ (a = 0 ∧ i = 16) ∧ ¬ (a = 0 ∧ i = 3) ∧ ¬ (a = 0 ∧ i = 30) ∧ ¬ (a = 0 ∧ i = 61) ∧ ¬ (a = 1 ∧ i = (σ 0 3)) ∧ a ≠ 18 ∧ ¬ (a = 2 ∧ 12 * (σ 0 3) ≤ i) ∧ ¬ (a = 3 ∧ i = (σ 0 3)) ∧ ¬ (a = 4 ∧ i = (σ 0 3)) ∧ ¬ (a = 5 ∧ i = (σ 0 3)) ∧ ¬ (a = 6 ∧ 18 * (σ 0 3) ≤ i) ∧ ¬ (a = 7 ∧ i = (σ 0 3)) ∧ a ≠ 8 ∧ a ≠ 9) → σ24 a i = σ a i := fun a i h => (hfσ24 a i ⟨h.2.1, h.2.2.1⟩).trans (hFσ20 a i h)
      refine zr_istore_n (pc := 27) hV [some (ZR 0), some (ZI a), some (ZI c), some (ZI r24), none, none] dX12_join_27 rfl (by decide) rfl rfl ?_
      refine zr_iload_n (pc := 28) hV dX12_join_28 rfl rfl ?_
      have J44 : ∀ (v0_44 : Int) (σ_44 : zq_S), (0 ≤ v0_44 ∧ v0_44 ≤ 1) → (zx_T σ_44) → (∀ a i : Int, (¬ (a = 0 ∧ i = 14) ∧ ¬ (a = 0 ∧ i = 15) ∧ ¬ (a = 0 ∧ i = 16) ∧ ¬ (a = 0 ∧ i = 3) ∧ ¬ (a = 0 ∧ i = 30) ∧ ¬ (a = 0 ∧ i = 61) ∧ ¬ (a = 1 ∧ i = (σ 0 3)) ∧ a ≠ 18 ∧ ¬ (a = 2 ∧ 12 * (σ 0 3) ≤ i) ∧ ¬ (a = 3 ∧ i = (σ 0 3)) ∧ ¬ (a = 4 ∧ i = (σ 0 3)) ∧ ¬ (a = 5 ∧ i = (σ 0 3)) ∧ ¬ (a = 6 ∧ 18 * (σ 0 3) ≤ i) ∧ ¬ (a = 7 ∧ i = (σ 0 3)) ∧ a ≠ 8 ∧ a ≠ 9) → σ_44 a i = σ a i) → (zx_M σ_44) → (zx_O σ_44) → (zx_TK σ_44) → (σ_44 0 3 = σ 0 3) → V 44 [some (ZR 0), some (ZI a), some (ZI c), some (ZI r24), none, none] [ZI v0_44] 41 σ_44 := by
        intro v0_44 σ_44 hv0_44 hσ_44 hFσ_44 Mσ_44 Oσ_44 Tσ_44 hi44_0
        show V 44 [some (ZR 0), some (ZI a), some (ZI c), some (ZI r24), none, none] [ZI v0_44] 41 σ_44
        refine zr_istore (pc := 44) hV [some (ZR 0), some (ZI a), some (ZI c), some (ZI r24), some (ZI v0_44), none] dX12_join_44 (by decide) rfl rfl ?_
        refine zr_aload_n (pc := 46) hV dX12_join_46 rfl rfl ?_
        refine zr_iconst (pc := 47) hV 0 dX12_join_47 rfl ?_
        refine zr_putI (pc := 48) hV 14 dX12_join_48 fX12_197 rfl rfl rfl rfl (by decide) (fun σ48 eσ48 => ?_)
        have hσ48 : zx_T σ48 := zx_u14 eσ48 hσ_44 (by omega)
        have hFσ48 : ∀ a i : Int, (¬ (a = 0 ∧ i = 14) ∧ ¬ (a = 0 ∧ i = 15) ∧ ¬ (a = 0 ∧ i = 16) ∧ ¬ (a = 0 ∧ i = 3) ∧ ¬ (a = 0 ∧ i = 30) ∧ ¬ (a = 0 ∧ i = 61) ∧ ¬ (a = 1 ∧ i = (σ 0 3)) ∧ a ≠ 18 ∧ ¬ (a = 2 ∧ 12 * (σ 0 3) ≤ i) ∧ ¬ (a = 3 ∧ i = (σ 0 3)) ∧ ¬ (a = 4 ∧ i = (σ 0 3)) ∧ ¬ (a = 5 ∧ i = (σ 0 3)) ∧ ¬ (a = 6 ∧ 18 * (σ 0 3) ≤ i) ∧ ¬ (a = 7 ∧ i = (σ 0 3)) ∧ a ≠ 8 ∧ a ≠ 9) → σ48 a i = σ a i := fun a i h => by rw [eσ48, zq_up_ne h.1]; exact hFσ_44 a i h
        have Mσ48 : zx_M σ48 := zx_M_fr (fun i => by rw [eσ48]; exact zq_up_ne (by omega)) (by rw [eσ48]; exact zq_up_ne (by omega)) (by rw [eσ48]; exact zq_up_ne (by omega)) (by rw [eσ48]; exact zq_up_ne (by omega)) Mσ_44
        have Oσ48 : zx_O σ48 := zx_O_fr (fun i => by rw [eσ48]; exact zq_up_ne (by omega)) (fun i => by rw [eσ48]; exact zq_up_ne (by omega)) (fun i => by rw [eσ48]; exact zq_up_ne (by omega)) (by rw [eσ48]; exact zq_up_ne (by omega)) (by rw [eσ48]; exact zq_up_ne (by omega)) Oσ_44
        have Tσ48 : zx_TK σ48 := zx_TK_fr (fun i => by rw [eσ48]; exact zq_up_ne (by omega)) (by rw [eσ48]; exact zq_up_ne (by omega)) Tσ_44
        refine zr_iload (pc := 51) hV dX12_join_51 rfl ?_
        refine zr_if_ne (pc := 53) hV 64 dX12_join_53 (by decide) (by omega) (fun c5 => ?_) (fun c5 => ?_)
        · show V 64 [some (ZR 0), some (ZI a), some (ZI c), some (ZI r24), some (ZI v0_44), none] [] 41 σ48
          refine zr_aload_n (pc := 64) hV dX12_join_64 rfl rfl ?_
          refine zr_iload_n (pc := 65) hV dX12_join_65 rfl rfl ?_
          refine zr_iload_n (pc := 66) hV dX12_join_66 rfl rfl ?_
          have t6 := zx_g3 hσ48
          have t7 : σ48 0 3 = σ_44 0 3 := by rw [eσ48]; exact zq_up_ne (by omega)
          have t8 := zx_g3 hσ48
          have t9 : σ48 0 3 = σ_44 0 3 := by rw [eσ48]; exact zq_up_ne (by omega)
          refine zr_callVi (pc := 67) hV [ZI a, ZI c] (st := []) (c_X12_roomFor2 (σ := σ48) hσ48 a c (by omega) (by omega) Mσ48 Oσ48) dX12_join_67 mX12_473 rfl (by decide) (by decide) (Nat.le_of_ble_eq_true rfl) (Nat.le_refl _) (fun r67 σ67 hr67 pσ67 => ?_)
          obtain ⟨hσ67, hfσ67, pσ67, wσ67, Mσ67, Oσ67⟩ := pσ67
          have Tσ67 : zx_TK σ67 := zx_TK_fr (fun i => hfσ67 7 i (by omega)) (hfσ67 0 3 (by omega)) Tσ48
          have hFσ67 : ∀ a i : Int, (¬ (a = 0 ∧ i = 14) ∧ ¬ (a = 0 ∧ i = 15) ∧ ¬ (a = 0 ∧ i = 16) ∧ ¬ (a = 0 ∧ i = 3) ∧ ¬ (a = 0 ∧ i = 30) ∧ ¬ (a = 0 ∧ i = 61) ∧ ¬ (a = 1 ∧ i = (σ 0 3)) ∧ a ≠ 18 ∧ ¬ (a = 2 ∧ 12 * (σ 0 3) ≤ i) ∧ ¬ (a = 3 ∧ i = (σ 0 3)) ∧ ¬ (a = 4 ∧ i = (σ 0 3)) ∧ ¬ (a = 5 ∧ i = (σ 0 3)) ∧ ¬ (a = 6 ∧ 18 * (σ 0 3) ≤ i) ∧ ¬ (a = 7 ∧ i = (σ 0 3)) ∧ a ≠ 8 ∧ a ≠ 9) → σ67 a i = σ a i := fun a i h => (hfσ67 a i ⟨h.2.2.2.2.1, h.2.2.2.2.2.1, h.2.2.2.2.2.2.2.1⟩).trans (hFσ48 a i h)
          have t10 := zx_g1 hσ48
          have t11 : σ48 0 1 = σ_44 0 1 := by rw [eσ48]; exact zq_up_ne (by omega)
          have t12 : σ_44 0 1 = σ 0 1 := hFσ_44 _ _ (by omega)
          have t13 := zx_g2 hσ48
          have t14 : σ48 0 2 = σ_44 0 2 := by rw [eσ48]; exact zq_up_ne (by omega)
          have t15 : σ_44 0 2 = σ 0 2 := hFσ_44 _ _ (by omega)
          refine zr_istore (pc := 70) hV [some (ZR 0), some (ZI a), some (ZI c), some (ZI r24), some (ZI v0_44), some (ZI r67)] dX12_join_70 (by decide) rfl rfl ?_
          refine zr_iload (pc := 72) hV dX12_join_72 rfl ?_
          refine zr_if_ge (pc := 74) hV 80 dX12_join_74 (by decide) (by omega) (fun c16 => ?_) (fun c16 => ?_)
          · show V 80 [some (ZR 0), some (ZI a), some (ZI c), some (ZI r24), some (ZI v0_44), some (ZI r67)] [] 41 σ67
            have u67 : σ48 5 a + σ48 5 c ≤ 3 ∧ σ48 7 a + σ48 7 c ≤ 10 ∧ σ67 0 61 = zx_rb (zq_or (zx_fm σ48 a 4) (zx_fm σ48 c 4)) (if 0 < zx_cnt σ48 a 3 (σ48 0 2) then zx_cnt σ48 a 3 (σ48 0 2) else zx_cnt σ48 c 3 (σ48 0 2)) (σ48 0 1) ∧ 0 ≤ σ67 0 61 ∧ σ67 0 61 < σ48 0 2 := wσ67 (by omega)
            have e5 := fun i => hfσ67 5 i (by omega)
            have e7 := fun i => hfσ67 7 i (by omega)
            have e2 := fun i => hfσ67 2 i (by omega)
            have eb := hfσ67 0 2 (by omega)
            have ek := hfσ67 0 1 (by omega)
            have eo := hfσ67 0 3 (by omega)
            have rb67 : σ67 0 61 = zx_rb (zq_or (zx_fm σ67 a 4) (zx_fm σ67 c 4)) (if 0 < zx_cnt σ67 a 3 (σ67 0 2) then zx_cnt σ67 a 3 (σ67 0 2) else zx_cnt σ67 c 3 (σ67 0 2)) (σ67 0 1) := by rw [zx_fm_fr e2 eb, zx_fm_fr e2 eb, zx_cnt_fr e2, zx_cnt_fr e2, eb, ek]; exact u67.2.2.1
            refine zr_aload_n (pc := 80) hV dX12_join_80 rfl rfl ?_
            refine zr_getI (pc := 81) hV 3 dX12_join_81 fX12_150 rfl rfl rfl (by decide) ?_
            have t17 := zx_g3 hσ67
            have t18 : σ67 0 3 = σ48 0 3 := hfσ67 _ _ (by omega)
            have t19 : σ48 0 3 = σ_44 0 3 := by rw [eσ48]; exact zq_up_ne (by omega)
            refine zr_bipush (pc := 84) hV 20 dX12_join_84 (by decide) ?_
            refine zr_icmp_ne (pc := 86) hV 92 dX12_join_86 (by decide) (by omega) ⟨by decide, by decide⟩ (fun c20 => ?_) (fun c20 => ?_)
            · show V 92 [some (ZR 0), some (ZI a), some (ZI c), some (ZI r24), some (ZI v0_44), some (ZI r67)] [] 41 σ67
              refine zr_aload_n (pc := 92) hV dX12_join_92 rfl rfl ?_
              refine zr_iload_n (pc := 93) hV dX12_join_93 rfl rfl ?_
              refine zr_iload_n (pc := 94) hV dX12_join_94 rfl rfl ?_
              refine zr_iload (pc := 95) hV dX12_join_95 rfl ?_
              refine zr_iload_n (pc := 97) hV dX12_join_97 rfl rfl ?_
              have t21 := zx_g3 hσ67
              have t22 : σ67 0 3 = σ48 0 3 := hfσ67 _ _ (by omega)
              have t23 : σ48 0 3 = σ_44 0 3 := by rw [eσ48]; exact zq_up_ne (by omega)
              have t24 := zx_g3 hσ67
              have t25 : σ67 0 3 = σ48 0 3 := hfσ67 _ _ (by omega)
              have t26 : σ48 0 3 = σ_44 0 3 := by rw [eσ48]; exact zq_up_ne (by omega)
              have t27 := zx_g3 hσ67
              have t28 : σ67 0 3 = σ48 0 3 := hfσ67 _ _ (by omega)
              have t29 : σ48 0 3 = σ_44 0 3 := by rw [eσ48]; exact zq_up_ne (by omega)
              have t30 := zx_g1 hσ67
              have t31 : σ67 0 1 = σ48 0 1 := hfσ67 _ _ (by omega)
              have t32 : σ48 0 1 = σ_44 0 1 := by rw [eσ48]; exact zq_up_ne (by omega)
              have t33 : σ_44 0 1 = σ 0 1 := hFσ_44 _ _ (by omega)
              have t34 := zx_g2 hσ67
              have t35 : σ67 0 2 = σ48 0 2 := hfσ67 _ _ (by omega)
              have t36 : σ48 0 2 = σ_44 0 2 := by rw [eσ48]; exact zq_up_ne (by omega)
              have t37 : σ_44 0 2 = σ 0 2 := hFσ_44 _ _ (by omega)
              have t38 := zx_g61 hσ67
              have t39 := zx_g2 hσ67
              have t40 : σ67 0 2 = σ48 0 2 := hfσ67 _ _ (by omega)
              have t41 : σ48 0 2 = σ_44 0 2 := by rw [eσ48]; exact zq_up_ne (by omega)
              have t42 : σ_44 0 2 = σ 0 2 := hFσ_44 _ _ (by omega)
              have t43 := zx_g61 hσ67
              refine zr_callVv (pc := 98) hV [ZI a, ZI c, ZI r67, ZI r24] (st := []) (c_X12_layJoined (σ := σ67) hσ67 a c r67 r24 (by omega) (by omega) (by omega) (by omega) (by omega) (by rw [e5 a, e5 c]; exact u67.1) (by rw [e7 a, e7 c]; exact u67.2.1) (Tσ67 a (by omega) (by omega)) (Tσ67 c (by omega) (by omega)) (Oσ67 a (by omega) (by omega)).1 (Oσ67 c (by omega) (by omega)).1 (Oσ67 a (by omega) (by omega)).2 (Oσ67 c (by omega) (by omega)).2 rb67 ⟨u67.2.2.2.1, by have := u67.2.2.2.2; omega⟩) dX12_join_98 mX12_476 rfl (by decide) (by decide) (Nat.le_of_ble_eq_true rfl) (Nat.le_refl _) (fun σ98 pσ98 => ?_)
              obtain ⟨hσ98, hfσ98, pσ98⟩ := pσ98
              have Mσ98 : zx_M σ98 := zx_M_fr (fun i => hfσ98 18 i (by omega)) (hfσ98 0 30 (by omega)) (hfσ98 0 2 (by omega)) (hfσ98 0 3 (by omega)) Mσ67
              have Oσ98 : zx_O σ98 := zx_O_old hσ67 (hfσ98 0 2 (by omega)) (hfσ98 0 3 (by omega)) (fun i h => hfσ98 2 i (by omega)) (fun i h => hfσ98 5 i (by omega)) (fun i h => hfσ98 6 i (by omega)) Oσ67
              have Tσ98 : zx_TK σ98 := zx_TK_old (hfσ98 0 3 (by omega)) (fun i h => hfσ98 7 i (by omega)) Tσ67
              have hFσ98 : ∀ a i : Int, (¬ (a = 0 ∧ i = 14) ∧ ¬ (a = 0 ∧ i = 15) ∧ ¬ (a = 0 ∧ i = 16) ∧ ¬ (a = 0 ∧ i = 3) ∧ ¬ (a = 0 ∧ i = 30) ∧ ¬ (a = 0 ∧ i = 61) ∧ ¬ (a = 1 ∧ i = (σ 0 3)) ∧ a ≠ 18 ∧ ¬ (a = 2 ∧ 12 * (σ 0 3) ≤ i) ∧ ¬ (a = 3 ∧ i = (σ 0 3)) ∧ ¬ (a = 4 ∧ i = (σ 0 3)) ∧ ¬ (a = 5 ∧ i = (σ 0 3)) ∧ ¬ (a = 6 ∧ 18 * (σ 0 3) ≤ i) ∧ ¬ (a = 7 ∧ i = (σ 0 3)) ∧ a ≠ 8 ∧ a ≠ 9) → σ98 a i = σ a i := fun a i h => (hfσ98 a i ⟨(fun q => h.2.2.2.2.2.2.1 ⟨q.1, by omega⟩), (fun q => h.2.2.2.2.2.2.2.2.1 ⟨q.1, by omega⟩), (fun q => h.2.2.2.2.2.2.2.2.2.1 ⟨q.1, by omega⟩), (fun q => h.2.2.2.2.2.2.2.2.2.2.1 ⟨q.1, by omega⟩), (fun q => h.2.2.2.2.2.2.2.2.2.2.2.1 ⟨q.1, by omega⟩), (fun q => h.2.2.2.2.2.2.2.2.2.2.2.2.1 ⟨q.1, by omega⟩), (fun q => h.2.2.2.2.2.2.2.2.2.2.2.2.2.1 ⟨q.1, by omega⟩)⟩).trans (hFσ67 a i h)
              have t44 := zx_g3 hσ67
              have t45 : σ67 0 3 = σ48 0 3 := hfσ67 _ _ (by omega)
              have t46 : σ48 0 3 = σ_44 0 3 := by rw [eσ48]; exact zq_up_ne (by omega)
              refine zr_aload_n (pc := 101) hV dX12_join_101 rfl rfl ?_
              have w3 : σ98 0 3 = σ67 0 3 := hfσ98 0 3 (by omega)
              have t47 := zx_g3 hσ98
              have t48 : σ98 0 3 = σ67 0 3 := hfσ98 _ _ (by omega)
              have t49 : σ67 0 3 = σ48 0 3 := hfσ67 _ _ (by omega)
              have t50 : σ48 0 3 = σ_44 0 3 := by rw [eσ48]; exact zq_up_ne (by omega)
              have t51 := zx_g3 hσ98
              have t52 : σ98 0 3 = σ67 0 3 := hfσ98 _ _ (by omega)
              have t53 : σ67 0 3 = σ48 0 3 := hfσ67 _ _ (by omega)
              have t54 : σ48 0 3 = σ_44 0 3 := by rw [eσ48]; exact zq_up_ne (by omega)
              have t55 := zx_g3 hσ98
              have t56 : σ98 0 3 = σ67 0 3 := hfσ98 _ _ (by omega)
              have t57 : σ67 0 3 = σ48 0 3 := hfσ67 _ _ (by omega)
              have t58 : σ48 0 3 = σ_44 0 3 := by rw [eσ48]; exact zq_up_ne (by omega)
              refine zr_callVi (pc := 102) hV [] (st := []) (c_X12_addOrder2 (σ := σ98) hσ98 (by rw [w3]; exact pσ98.1) (by rw [w3]; exact pσ98.2.1) (by rw [w3]; exact pσ98.2.2) Mσ98 Oσ98 Tσ98) dX12_join_102 mX12_268 rfl (by decide) (by decide) (Nat.le_of_ble_eq_true rfl) (Nat.le_refl _) (fun r102 σ102 hr102 pσ102 => ?_)
              obtain ⟨hσ102, hfσ102, pσ102, Mσ102, Oσ102, Tσ102⟩ := pσ102
              have hFσ102 : ∀ a i : Int, (¬ (a = 0 ∧ i = 14) ∧ ¬ (a = 0 ∧ i = 15) ∧ ¬ (a = 0 ∧ i = 16) ∧ ¬ (a = 0 ∧ i = 3) ∧ ¬ (a = 0 ∧ i = 30) ∧ ¬ (a = 0 ∧ i = 61) ∧ ¬ (a = 1 ∧ i = (σ 0 3)) ∧ a ≠ 18 ∧ ¬ (a = 2 ∧ 12 * (σ 0 3) ≤ i) ∧ ¬ (a = 3 ∧ i = (σ 0 3)) ∧ ¬ (a = 4 ∧ i = (σ 0 3)) ∧ ¬ (a = 5 ∧ i = (σ 0 3)) ∧ ¬ (a = 6 ∧ 18 * (σ 0 3) ≤ i) ∧ ¬ (a = 7 ∧ i = (σ 0 3)) ∧ a ≠ 8 ∧ a ≠ 9) → σ102 a i = σ a i := fun a i h => (hfσ102 a i ⟨h.2.2.2.1, h.2.2.2.2.1, h.2.2.2.2.2.2.2.2.2.2.2.2.2.2.1, h.2.2.2.2.2.2.2.2.2.2.2.2.2.2.2⟩).trans (hFσ98 a i h)
              exact zr_iret (pc := 105) hV dX12_join_105 rfl rfl ⟨_, rfl, (by omega), hσ102, hFσ102, trivial, Mσ102, Oσ102, Tσ102⟩
            · show V 89 [some (ZR 0), some (ZI a), some (ZI c), some (ZI r24), some (ZI v0_44), some (ZI r67)] [] 41 σ67
              refine zr_bipush (pc := 89) hV (-3) dX12_join_89 (by decide) ?_
              exact zr_iret (pc := 91) hV dX12_join_91 rfl rfl ⟨_, rfl, ⟨by decide, by decide⟩, hσ67, hFσ67, trivial, Mσ67, Oσ67, Tσ67⟩
          · show V 77 [some (ZR 0), some (ZI a), some (ZI c), some (ZI r24), some (ZI v0_44), some (ZI r67)] [] 41 σ67
            refine zr_bipush (pc := 77) hV (-2) dX12_join_77 (by decide) ?_
            exact zr_iret (pc := 79) hV dX12_join_79 rfl rfl ⟨_, rfl, ⟨by decide, by decide⟩, hσ67, hFσ67, trivial, Mσ67, Oσ67, Tσ67⟩
        · show V 56 [some (ZR 0), some (ZI a), some (ZI c), some (ZI r24), some (ZI v0_44), none] [] 41 σ48
          refine zr_bipush (pc := 56) hV (-20) dX12_join_56 (by decide) ?_
          refine zr_aload_n (pc := 58) hV dX12_join_58 rfl rfl ?_
          refine zr_getI (pc := 59) hV 15 dX12_join_59 fX12_200 rfl rfl rfl (by decide) ?_
          have t59 := zx_g15 hσ48
          have t60 : σ48 0 15 = σ_44 0 15 := by rw [eσ48]; exact zq_up_ne (by omega)
          refine zr_isub (pc := 62) hV dX12_join_62 ?_
          exact zr_iret (pc := 63) hV dX12_join_63 rfl rfl ⟨_, rfl, (by omega), hσ48, hFσ48, trivial, Mσ48, Oσ48, Tσ48⟩
      have J43 : ∀ (σ_43 : zq_S), (zx_T σ_43) → (∀ a i : Int, (¬ (a = 0 ∧ i = 14) ∧ ¬ (a = 0 ∧ i = 15) ∧ ¬ (a = 0 ∧ i = 16) ∧ ¬ (a = 0 ∧ i = 3) ∧ ¬ (a = 0 ∧ i = 30) ∧ ¬ (a = 0 ∧ i = 61) ∧ ¬ (a = 1 ∧ i = (σ 0 3)) ∧ a ≠ 18 ∧ ¬ (a = 2 ∧ 12 * (σ 0 3) ≤ i) ∧ ¬ (a = 3 ∧ i = (σ 0 3)) ∧ ¬ (a = 4 ∧ i = (σ 0 3)) ∧ ¬ (a = 5 ∧ i = (σ 0 3)) ∧ ¬ (a = 6 ∧ 18 * (σ 0 3) ≤ i) ∧ ¬ (a = 7 ∧ i = (σ 0 3)) ∧ a ≠ 8 ∧ a ≠ 9) → σ_43 a i = σ a i) → (zx_M σ_43) → (zx_O σ_43) → (zx_TK σ_43) → (σ_43 0 3 = σ 0 3) → V 43 [some (ZR 0), some (ZI a), some (ZI c), some (ZI r24), none, none] [] 41 σ_43 := by
        intro σ_43 hσ_43 hFσ_43 Mσ_43 Oσ_43 Tσ_43 hi43_0
        show V 43 [some (ZR 0), some (ZI a), some (ZI c), some (ZI r24), none, none] [] 41 σ_43
        refine zr_iconst (pc := 43) hV 0 dX12_join_43 rfl ?_
        have t61 := zx_g3 hσ_43
        exact J44 0 σ_43 (by omega) hσ_43 hFσ_43 Mσ_43 Oσ_43 Tσ_43 (by omega)
      refine zr_if_eq (pc := 29) hV 43 dX12_join_29 (by decide) (by omega) (fun c62 => ?_) (fun c62 => ?_)
      · have t63 := zx_g3 hσ24
        have t64 : σ24 0 3 = σ20 0 3 := hfσ24 _ _ (by omega)
        have t65 : σ20 0 3 = σ 0 3 := by rw [eσ20]; exact zq_up_ne (by omega)
        exact J43 σ24 hσ24 hFσ24 Mσ24 Oσ24 Tσ24 (by omega)
      · show V 32 [some (ZR 0), some (ZI a), some (ZI c), some (ZI r24), none, none] [] 41 σ24
        refine zr_aload_n (pc := 32) hV dX12_join_32 rfl rfl ?_
        refine zr_callVi (pc := 33) hV [] (st := []) (c_X12_next (σ := σ24) hσ24 ) dX12_join_33 mX12_203 rfl (by decide) (by decide) (Nat.le_of_ble_eq_true rfl) (Nat.le_refl _) (fun r33 σ33 hr33 pσ33 => ?_)
        obtain ⟨hσ33, hfσ33, pσ33, wσ33⟩ := pσ33
        have Mσ33 : zx_M σ33 := zx_M_fr (fun i => hfσ33 18 i (by omega)) (hfσ33 0 30 (by omega)) (hfσ33 0 2 (by omega)) (hfσ33 0 3 (by omega)) Mσ24
        have Oσ33 : zx_O σ33 := zx_O_fr (fun i => hfσ33 2 i (by omega)) (fun i => hfσ33 5 i (by omega)) (fun i => hfσ33 6 i (by omega)) (hfσ33 0 2 (by omega)) (hfσ33 0 3 (by omega)) Oσ24
        have Tσ33 : zx_TK σ33 := zx_TK_fr (fun i => hfσ33 7 i (by omega)) (hfσ33 0 3 (by omega)) Tσ24
        have hFσ33 : ∀ a i : Int, (¬ (a = 0 ∧ i = 14) ∧ ¬ (a = 0 ∧ i = 15) ∧ ¬ (a = 0 ∧ i = 16) ∧ ¬ (a = 0 ∧ i = 3) ∧ ¬ (a = 0 ∧ i = 30) ∧ ¬ (a = 0 ∧ i = 61) ∧ ¬ (a = 1 ∧ i = (σ 0 3)) ∧ a ≠ 18 ∧ ¬ (a = 2 ∧ 12 * (σ 0 3) ≤ i) ∧ ¬ (a = 3 ∧ i = (σ 0 3)) ∧ ¬ (a = 4 ∧ i = (σ 0 3)) ∧ ¬ (a = 5 ∧ i = (σ 0 3)) ∧ ¬ (a = 6 ∧ 18 * (σ 0 3) ≤ i) ∧ ¬ (a = 7 ∧ i = (σ 0 3)) ∧ a ≠ 8 ∧ a ≠ 9) → σ33 a i = σ a i := fun a i h => (hfσ33 a i h.2.1).trans (hFσ24 a i h)
        have t66 := zx_g14 hσ24
        have t67 : σ24 0 14 = σ20 0 14 := hfσ24 _ _ (by omega)
        have t68 : σ20 0 14 = σ 0 14 := by rw [eσ20]; exact zq_up_ne (by omega)
        have t69 := zx_g15 hσ24
        have t70 := zx_g15 hσ33
        refine zr_if_ge (pc := 36) hV 43 dX12_join_36 (by decide) (by omega) (fun c71 => ?_) (fun c71 => ?_)
        · have t72 := zx_g3 hσ33
          have t73 : σ33 0 3 = σ24 0 3 := hfσ33 _ _ (by omega)
          have t74 : σ24 0 3 = σ20 0 3 := hfσ24 _ _ (by omega)
          have t75 : σ20 0 3 = σ 0 3 := by rw [eσ20]; exact zq_up_ne (by omega)
          exact J43 σ33 hσ33 hFσ33 Mσ33 Oσ33 Tσ33 (by omega)
        · show V 39 [some (ZR 0), some (ZI a), some (ZI c), some (ZI r24), none, none] [] 41 σ33
          refine zr_iconst (pc := 39) hV 1 dX12_join_39 rfl ?_
          refine zr_goto (pc := 40) hV 44 dX12_join_40 (by decide) ?_
          have t76 := zx_g3 hσ33
          have t77 : σ33 0 3 = σ24 0 3 := hfσ33 _ _ (by omega)
          have t78 : σ24 0 3 = σ20 0 3 := hfσ24 _ _ (by omega)
          have t79 : σ20 0 3 = σ 0 3 := by rw [eσ20]; exact zq_up_ne (by omega)
          exact J44 1 σ33 (by omega) hσ33 hFσ33 Mσ33 Oσ33 Tσ33 (by omega)
    · show V 16 [some (ZR 0), some (ZI a), some (ZI c), none, none, none] [] 41 σ
      refine zr_iconst (pc := 16) hV (-1) dX12_join_16 rfl ?_
      exact zr_iret (pc := 17) hV dX12_join_17 rfl rfl ⟨_, rfl, ⟨by decide, by decide⟩, hσ, (fun a i _ => rfl), trivial, Mσ, Oσ, Tσ⟩
