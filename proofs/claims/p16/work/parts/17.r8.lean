set_option maxHeartbeats 800000 in
theorem c_X12_readOrder {σ : zq_S} (hσ : zx_T σ) (o : Int) (q0 : 0 ≤ o ∧ o ≤ 20) : zq_C zx_w yX12_readOrder cX12_readOrder 4 (some .boolean) 5 120 41 41 [ZR 0, ZI o] σ (zq_pi (fun r τ => zx_T τ ∧ (∀ a i : Int, (¬ (a = 0 ∧ i = 15) ∧ ¬ (a = 0 ∧ i = 16) ∧ ¬ (a = 0 ∧ i = 17) ∧ ¬ (a = 1 ∧ i = o) ∧ ¬ (a = 2 ∧ 12 * o ≤ i ∧ i < 12 * o + 12) ∧ ¬ (a = 3 ∧ i = o) ∧ ¬ (a = 4 ∧ i = o) ∧ ¬ (a = 5 ∧ i = o) ∧ ¬ (a = 6 ∧ 18 * o ≤ i ∧ i < 18 * o + 18) ∧ ¬ (a = 7 ∧ i = o)) → τ a i = σ a i) ∧ ((r = 0 ∨ r = 1)) ∧ zq_hid (r = 1 → zx_A τ o ∧ zx_B τ o))) := by
  refine zq_C_of (by decide) (Nat.le_refl _) (Nat.le_of_ble_eq_true rfl) [some (ZR 0), some (ZI o), none, none] rfl (fun V hV => ?_)
  show V 0 [some (ZR 0), some (ZI o), none, none] [] 41 σ
  refine zr_aload_n (pc := 0) hV dX12_readOrder_0 rfl rfl ?_
  refine zr_iconst (pc := 1) hV 0 dX12_readOrder_1 rfl ?_
  refine zr_putI (pc := 2) hV 15 dX12_readOrder_2 fX12_200 rfl rfl rfl rfl (by decide) (fun σ2 eσ2 => ?_)
  have hσ2 : zx_T σ2 := zx_u15 eσ2 hσ (by omega)
  have hFσ2 : ∀ a i : Int, (¬ (a = 0 ∧ i = 15) ∧ ¬ (a = 0 ∧ i = 16) ∧ ¬ (a = 0 ∧ i = 17) ∧ ¬ (a = 1 ∧ i = o) ∧ ¬ (a = 2 ∧ 12 * o ≤ i ∧ i < 12 * o + 12) ∧ ¬ (a = 3 ∧ i = o) ∧ ¬ (a = 4 ∧ i = o) ∧ ¬ (a = 5 ∧ i = o) ∧ ¬ (a = 6 ∧ 18 * o ≤ i ∧ i < 18 * o + 18) ∧ ¬ (a = 7 ∧ i = o)) → σ2 a i = σ a i := fun a i h => by rw [eσ2, zq_up_ne h.1]
  refine zr_aload_n (pc := 5) hV dX12_readOrder_5 rfl rfl ?_
  refine zr_getR (pc := 6) hV 4 1 dX12_readOrder_6 fX12_19 rfl rfl rfl (by decide) (zx_g4 hσ2) (by omega) ?_
  refine zr_iload_n (pc := 9) hV dX12_readOrder_9 rfl rfl ?_
  refine zr_aload_n (pc := 10) hV dX12_readOrder_10 rfl rfl ?_
  refine zr_callVi (pc := 11) hV [] (st := [ZI o, ZR 1]) (c_X12_readNewName (σ := σ2) hσ2 ) dX12_readOrder_11 mX12_248 rfl (by decide) (by decide) (Nat.le_of_ble_eq_true rfl) (Nat.le_refl _) (fun r11 σ11 hr11 pσ11 => ?_)
  obtain ⟨hσ11, hfσ11, pσ11⟩ := pσ11
  have hFσ11 : ∀ a i : Int, (¬ (a = 0 ∧ i = 15) ∧ ¬ (a = 0 ∧ i = 16) ∧ ¬ (a = 0 ∧ i = 17) ∧ ¬ (a = 1 ∧ i = o) ∧ ¬ (a = 2 ∧ 12 * o ≤ i ∧ i < 12 * o + 12) ∧ ¬ (a = 3 ∧ i = o) ∧ ¬ (a = 4 ∧ i = o) ∧ ¬ (a = 5 ∧ i = o) ∧ ¬ (a = 6 ∧ 18 * o ≤ i ∧ i < 18 * o + 18) ∧ ¬ (a = 7 ∧ i = o)) → σ11 a i = σ a i := fun a i h => (hfσ11 a i ⟨h.1, h.2.1⟩).trans (hFσ2 a i h)
  refine zr_iast (pc := 14) hV dX12_readOrder_14 rfl (by decide) rfl (by omega) (fun σ14 eσ14 => ?_)
  have hσ14 : zx_T σ14 := zx_ua1 eσ14 hσ11 (by omega)
  have hFσ14 : ∀ a i : Int, (¬ (a = 0 ∧ i = 15) ∧ ¬ (a = 0 ∧ i = 16) ∧ ¬ (a = 0 ∧ i = 17) ∧ ¬ (a = 1 ∧ i = o) ∧ ¬ (a = 2 ∧ 12 * o ≤ i ∧ i < 12 * o + 12) ∧ ¬ (a = 3 ∧ i = o) ∧ ¬ (a = 4 ∧ i = o) ∧ ¬ (a = 5 ∧ i = o) ∧ ¬ (a = 6 ∧ 18 * o ≤ i ∧ i < 18 * o + 18) ∧ ¬ (a = 7 ∧ i = o)) → σ14 a i = σ a i := fun a i h => by rw [eσ14, zq_up_ne (fun q => h.2.2.2.1 ⟨q.1, by omega⟩)]; exact hFσ11 a i h
  refine zr_aload_n (pc := 15) hV dX12_readOrder_15 rfl rfl ?_
  refine zr_getR (pc := 16) hV 4 1 dX12_readOrder_16 fX12_19 rfl rfl rfl (by decide) (zx_g4 hσ14) (by omega) ?_
  refine zr_iload_n (pc := 19) hV dX12_readOrder_19 rfl rfl ?_
  refine zr_iald (pc := 20) hV dX12_readOrder_20 rfl (by decide) rfl (by omega) ?_
  have t1 := zx_ga1 hσ14 o
  have t2 : σ14 1 o = r11 := by rw [eσ14]; exact zq_up_same _ _ _ _
  refine zr_if_eq (pc := 21) hV 58 dX12_readOrder_21 (by decide) (by omega) (fun c3 => ?_) (fun c3 => ?_)
  · show V 58 [some (ZR 0), some (ZI o), none, none] [] 41 σ14
    refine zr_iconst (pc := 58) hV 0 dX12_readOrder_58 rfl ?_
    exact zr_zret (pc := 59) hV dX12_readOrder_59 rfl rfl (by omega) ⟨_, rfl, ⟨by decide, by decide⟩, hσ14, hFσ14, (by omega), (show (0 : Int) = 1 → zx_A σ14 o ∧ zx_B σ14 o from (fun h => absurd h (by omega)))⟩
  · show V 24 [some (ZR 0), some (ZI o), none, none] [] 41 σ14
    refine zr_aload_n (pc := 24) hV dX12_readOrder_24 rfl rfl ?_
    refine zr_bipush (pc := 25) hV 58 dX12_readOrder_25 (by decide) ?_
    refine zr_callVi (pc := 27) hV [ZI 58] (st := []) (c_X12_takes (σ := σ14) hσ14 58 (by omega)) dX12_readOrder_27 mX12_234 rfl (by decide) (by decide) (Nat.le_of_ble_eq_true rfl) (Nat.le_refl _) (fun r27 σ27 hr27 pσ27 => ?_)
    obtain ⟨hσ27, hfσ27, pσ27⟩ := pσ27
    have hFσ27 : ∀ a i : Int, (¬ (a = 0 ∧ i = 15) ∧ ¬ (a = 0 ∧ i = 16) ∧ ¬ (a = 0 ∧ i = 17) ∧ ¬ (a = 1 ∧ i = o) ∧ ¬ (a = 2 ∧ 12 * o ≤ i ∧ i < 12 * o + 12) ∧ ¬ (a = 3 ∧ i = o) ∧ ¬ (a = 4 ∧ i = o) ∧ ¬ (a = 5 ∧ i = o) ∧ ¬ (a = 6 ∧ 18 * o ≤ i ∧ i < 18 * o + 18) ∧ ¬ (a = 7 ∧ i = o)) → σ27 a i = σ a i := fun a i h => (hfσ27 a i h.1).trans (hFσ14 a i h)
    have t4 := zx_g15 hσ14
    have t5 : σ14 0 15 = σ11 0 15 := by rw [eσ14]; exact zq_up_ne (by omega)
    have t6 := zx_g15 hσ27
    refine zr_if_eq (pc := 30) hV 58 dX12_readOrder_30 (by decide) (by omega) (fun c7 => ?_) (fun c7 => ?_)
    · show V 58 [some (ZR 0), some (ZI o), none, none] [] 41 σ27
      refine zr_iconst (pc := 58) hV 0 dX12_readOrder_58 rfl ?_
      exact zr_zret (pc := 59) hV dX12_readOrder_59 rfl rfl (by omega) ⟨_, rfl, ⟨by decide, by decide⟩, hσ27, hFσ27, (by omega), (show (0 : Int) = 1 → zx_A σ27 o ∧ zx_B σ27 o from (fun h => absurd h (by omega)))⟩
    · show V 33 [some (ZR 0), some (ZI o), none, none] [] 41 σ27
      refine zr_aload_n (pc := 33) hV dX12_readOrder_33 rfl rfl ?_
      refine zr_iload_n (pc := 34) hV dX12_readOrder_34 rfl rfl ?_
      refine zr_callVi (pc := 35) hV [ZI o] (st := []) (c_X12_readLook (σ := σ27) hσ27 o (by omega)) dX12_readOrder_35 mX12_251 rfl (by decide) (by decide) (Nat.le_of_ble_eq_true rfl) (Nat.le_refl _) (fun r35 σ35 hr35 pσ35 => ?_)
      obtain ⟨hσ35, hfσ35, pσ35, wσ35⟩ := pσ35
      have hFσ35 : ∀ a i : Int, (¬ (a = 0 ∧ i = 15) ∧ ¬ (a = 0 ∧ i = 16) ∧ ¬ (a = 0 ∧ i = 17) ∧ ¬ (a = 1 ∧ i = o) ∧ ¬ (a = 2 ∧ 12 * o ≤ i ∧ i < 12 * o + 12) ∧ ¬ (a = 3 ∧ i = o) ∧ ¬ (a = 4 ∧ i = o) ∧ ¬ (a = 5 ∧ i = o) ∧ ¬ (a = 6 ∧ 18 * o ≤ i ∧ i < 18 * o + 18) ∧ ¬ (a = 7 ∧ i = o)) → σ35 a i = σ a i := fun a i h => (hfσ35 a i ⟨h.1, (fun q => h.2.2.2.2.1 ⟨q.1, by omega⟩)⟩).trans (hFσ27 a i h)
      refine zr_if_eq (pc := 38) hV 58 dX12_readOrder_38 (by decide) (by omega) (fun c8 => ?_) (fun c8 => ?_)
      · show V 58 [some (ZR 0), some (ZI o), none, none] [] 41 σ35
        refine zr_iconst (pc := 58) hV 0 dX12_readOrder_58 rfl ?_
        exact zr_zret (pc := 59) hV dX12_readOrder_59 rfl rfl (by omega) ⟨_, rfl, ⟨by decide, by decide⟩, hσ35, hFσ35, (by omega), (show (0 : Int) = 1 → zx_A σ35 o ∧ zx_B σ35 o from (fun h => absurd h (by omega)))⟩
      · show V 41 [some (ZR 0), some (ZI o), none, none] [] 41 σ35
        refine zr_aload_n (pc := 41) hV dX12_readOrder_41 rfl rfl ?_
        refine zr_bipush (pc := 42) hV 58 dX12_readOrder_42 (by decide) ?_
        refine zr_callVi (pc := 44) hV [ZI 58] (st := []) (c_X12_takes (σ := σ35) hσ35 58 (by omega)) dX12_readOrder_44 mX12_234 rfl (by decide) (by decide) (Nat.le_of_ble_eq_true rfl) (Nat.le_refl _) (fun r44 σ44 hr44 pσ44 => ?_)
        obtain ⟨hσ44, hfσ44, pσ44⟩ := pσ44
        have hFσ44 : ∀ a i : Int, (¬ (a = 0 ∧ i = 15) ∧ ¬ (a = 0 ∧ i = 16) ∧ ¬ (a = 0 ∧ i = 17) ∧ ¬ (a = 1 ∧ i = o) ∧ ¬ (a = 2 ∧ 12 * o ≤ i ∧ i < 12 * o + 12) ∧ ¬ (a = 3 ∧ i = o) ∧ ¬ (a = 4 ∧ i = o) ∧ ¬ (a = 5 ∧ i = o) ∧ ¬ (a = 6 ∧ 18 * o ≤ i ∧ i < 18 * o + 18) ∧ ¬ (a = 7 ∧ i = o)) → σ44 a i = σ a i := fun a i h => (hfσ44 a i h.1).trans (hFσ35 a i h)
        have t9 := zx_g15 hσ35
        have t10 := zx_g15 hσ44
        refine zr_if_eq (pc := 47) hV 58 dX12_readOrder_47 (by decide) (by omega) (fun c11 => ?_) (fun c11 => ?_)
        · show V 58 [some (ZR 0), some (ZI o), none, none] [] 41 σ44
          refine zr_iconst (pc := 58) hV 0 dX12_readOrder_58 rfl ?_
          exact zr_zret (pc := 59) hV dX12_readOrder_59 rfl rfl (by omega) ⟨_, rfl, ⟨by decide, by decide⟩, hσ44, hFσ44, (by omega), (show (0 : Int) = 1 → zx_A σ44 o ∧ zx_B σ44 o from (fun h => absurd h (by omega)))⟩
        · show V 50 [some (ZR 0), some (ZI o), none, none] [] 41 σ44
          refine zr_aload_n (pc := 50) hV dX12_readOrder_50 rfl rfl ?_
          refine zr_iload_n (pc := 51) hV dX12_readOrder_51 rfl rfl ?_
          refine zr_callVi (pc := 52) hV [ZI o] (st := []) (c_X12_readGuard (σ := σ44) hσ44 o (by omega)) dX12_readOrder_52 mX12_254 rfl (by decide) (by decide) (Nat.le_of_ble_eq_true rfl) (Nat.le_refl _) (fun r52 σ52 hr52 pσ52 => ?_)
          obtain ⟨hσ52, hfσ52, pσ52⟩ := pσ52
          have hFσ52 : ∀ a i : Int, (¬ (a = 0 ∧ i = 15) ∧ ¬ (a = 0 ∧ i = 16) ∧ ¬ (a = 0 ∧ i = 17) ∧ ¬ (a = 1 ∧ i = o) ∧ ¬ (a = 2 ∧ 12 * o ≤ i ∧ i < 12 * o + 12) ∧ ¬ (a = 3 ∧ i = o) ∧ ¬ (a = 4 ∧ i = o) ∧ ¬ (a = 5 ∧ i = o) ∧ ¬ (a = 6 ∧ 18 * o ≤ i ∧ i < 18 * o + 18) ∧ ¬ (a = 7 ∧ i = o)) → σ52 a i = σ a i := fun a i h => (hfσ52 a i ⟨h.1, (fun q => h.2.2.2.2.2.1 ⟨q.1, by omega⟩), (fun q => h.2.2.2.2.2.2.1 ⟨q.1, by omega⟩)⟩).trans (hFσ44 a i h)
          refine zr_if_ne (pc := 55) hV 60 dX12_readOrder_55 (by decide) (by omega) (fun c12 => ?_) (fun c12 => ?_)
          · show V 60 [some (ZR 0), some (ZI o), none, none] [] 41 σ52
            have B35 := wσ35 (by omega)
            have B44 : zx_B σ44 o := zx_B_fr (fun i => hfσ44 2 i (by omega)) (hfσ44 0 2 (by omega)) B35
            have B52 : zx_B σ52 o := zx_B_fr (fun i => hfσ52 2 i (by omega)) (hfσ52 0 2 (by omega)) B44
            refine zr_aload_n (pc := 60) hV dX12_readOrder_60 rfl rfl ?_
            refine zr_getR (pc := 61) hV 8 5 dX12_readOrder_61 fX12_32 rfl rfl rfl (by decide) (zx_g8 hσ52) (by omega) ?_
            refine zr_iload_n (pc := 64) hV dX12_readOrder_64 rfl rfl ?_
            refine zr_iconst (pc := 65) hV 0 dX12_readOrder_65 rfl ?_
            refine zr_iast (pc := 66) hV dX12_readOrder_66 rfl (by decide) rfl (by omega) (fun σ66 eσ66 => ?_)
            have hσ66 : zx_T σ66 := zx_ua5 eσ66 hσ52 (by omega)
            have hFσ66 : ∀ a i : Int, (¬ (a = 0 ∧ i = 15) ∧ ¬ (a = 0 ∧ i = 16) ∧ ¬ (a = 0 ∧ i = 17) ∧ ¬ (a = 1 ∧ i = o) ∧ ¬ (a = 2 ∧ 12 * o ≤ i ∧ i < 12 * o + 12) ∧ ¬ (a = 3 ∧ i = o) ∧ ¬ (a = 4 ∧ i = o) ∧ ¬ (a = 5 ∧ i = o) ∧ ¬ (a = 6 ∧ 18 * o ≤ i ∧ i < 18 * o + 18) ∧ ¬ (a = 7 ∧ i = o)) → σ66 a i = σ a i := fun a i h => by rw [eσ66, zq_up_ne (fun q => h.2.2.2.2.2.2.2.1 ⟨q.1, by omega⟩)]; exact hFσ52 a i h
            have B66 : zx_B σ66 o := zx_B_fr (fun i => by rw [eσ66]; exact zq_up_ne (by omega)) (by rw [eσ66]; exact zq_up_ne (by omega)) B52
            have a66 : σ66 5 o = 0 := by rw [eσ66, zq_up_same]
            refine zr_iconst (pc := 67) hV 1 dX12_readOrder_67 rfl ?_
            refine zr_istore_n (pc := 68) hV [some (ZR 0), some (ZI o), some (ZI 1), none] dX12_readOrder_68 rfl (by decide) rfl rfl ?_
            have L69 : ∀ (fuel : Nat) (x2_69 : Int) (σ_69 : zq_S), (0 ≤ x2_69 ∧ x2_69 ≤ 1) → (zx_T σ_69) → (∀ a i : Int, (¬ (a = 0 ∧ i = 15) ∧ ¬ (a = 0 ∧ i = 16) ∧ ¬ (a = 0 ∧ i = 17) ∧ ¬ (a = 1 ∧ i = o) ∧ ¬ (a = 2 ∧ 12 * o ≤ i ∧ i < 12 * o + 12) ∧ ¬ (a = 3 ∧ i = o) ∧ ¬ (a = 4 ∧ i = o) ∧ ¬ (a = 5 ∧ i = o) ∧ ¬ (a = 6 ∧ 18 * o ≤ i ∧ i < 18 * o + 18) ∧ ¬ (a = 7 ∧ i = o)) → σ_69 a i = σ a i) → (σ_69 5 o ≤ 3) → (x2_69 = 1 → σ_69 5 o ≤ 2) → (zx_A σ_69 o) → (zx_B σ_69 o) → 3 - σ_69 5 o < (fuel : Int) → V 69 [some (ZR 0), some (ZI o), some (ZI x2_69), none] [] 41 σ_69 := by
              intro fuel
              induction fuel with
              | zero =>
                intro x2_69 σ_69 hx2_69 hσ_69 hFσ_69 hi69_0 hi69_1 hi69_2 hi69_3 hm69
                exfalso; omega
              | succ fuel ih =>
                intro x2_69 σ_69 hx2_69 hσ_69 hFσ_69 hi69_0 hi69_1 hi69_2 hi69_3 hm69
                have ih69 := ih
                show V 69 [some (ZR 0), some (ZI o), some (ZI x2_69), none] [] 41 σ_69
                refine zr_iload_n (pc := 69) hV dX12_readOrder_69 rfl rfl ?_
                refine zr_if_eq (pc := 70) hV 127 dX12_readOrder_70 (by decide) (by omega) (fun c13 => ?_) (fun c13 => ?_)
                · show V 127 [some (ZR 0), some (ZI o), some (ZI x2_69), none] [] 41 σ_69
                  refine zr_aload_n (pc := 127) hV dX12_readOrder_127 rfl rfl ?_
                  refine zr_bipush (pc := 128) hV 58 dX12_readOrder_128 (by decide) ?_
                  refine zr_callVi (pc := 130) hV [ZI 58] (st := []) (c_X12_takes (σ := σ_69) hσ_69 58 (by omega)) dX12_readOrder_130 mX12_234 rfl (by decide) (by decide) (Nat.le_of_ble_eq_true rfl) (Nat.le_refl _) (fun r130 σ130 hr130 pσ130 => ?_)
                  obtain ⟨hσ130, hfσ130, pσ130⟩ := pσ130
                  have hFσ130 : ∀ a i : Int, (¬ (a = 0 ∧ i = 15) ∧ ¬ (a = 0 ∧ i = 16) ∧ ¬ (a = 0 ∧ i = 17) ∧ ¬ (a = 1 ∧ i = o) ∧ ¬ (a = 2 ∧ 12 * o ≤ i ∧ i < 12 * o + 12) ∧ ¬ (a = 3 ∧ i = o) ∧ ¬ (a = 4 ∧ i = o) ∧ ¬ (a = 5 ∧ i = o) ∧ ¬ (a = 6 ∧ 18 * o ≤ i ∧ i < 18 * o + 18) ∧ ¬ (a = 7 ∧ i = o)) → σ130 a i = σ a i := fun a i h => (hfσ130 a i h.1).trans (hFσ_69 a i h)
                  have t14 := zx_g15 hσ_69
                  have t15 := zx_g15 hσ130
                  refine zr_if_ne (pc := 133) hV 138 dX12_readOrder_133 (by decide) (by omega) (fun c16 => ?_) (fun c16 => ?_)
                  · show V 138 [some (ZR 0), some (ZI o), some (ZI x2_69), none] [] 41 σ130
                    refine zr_aload_n (pc := 138) hV dX12_readOrder_138 rfl rfl ?_
                    refine zr_callVi (pc := 139) hV [] (st := []) (c_X12_next (σ := σ130) hσ130 ) dX12_readOrder_139 mX12_203 rfl (by decide) (by decide) (Nat.le_of_ble_eq_true rfl) (Nat.le_refl _) (fun r139 σ139 hr139 pσ139 => ?_)
                    obtain ⟨hσ139, hfσ139, pσ139, wσ139⟩ := pσ139
                    have hFσ139 : ∀ a i : Int, (¬ (a = 0 ∧ i = 15) ∧ ¬ (a = 0 ∧ i = 16) ∧ ¬ (a = 0 ∧ i = 17) ∧ ¬ (a = 1 ∧ i = o) ∧ ¬ (a = 2 ∧ 12 * o ≤ i ∧ i < 12 * o + 12) ∧ ¬ (a = 3 ∧ i = o) ∧ ¬ (a = 4 ∧ i = o) ∧ ¬ (a = 5 ∧ i = o) ∧ ¬ (a = 6 ∧ 18 * o ≤ i ∧ i < 18 * o + 18) ∧ ¬ (a = 7 ∧ i = o)) → σ139 a i = σ a i := fun a i h => (hfσ139 a i h.1).trans (hFσ130 a i h)
                    have t17 := zx_g14 hσ130
                    have t18 : σ130 0 14 = σ_69 0 14 := hfσ130 _ _ (by omega)
                    have t19 : σ_69 0 14 = σ 0 14 := hFσ_69 _ _ (by omega)
                    have t20 := zx_g15 hσ130
                    have t21 := zx_g15 hσ139
                    refine zr_istore_n (pc := 142) hV [some (ZR 0), some (ZI o), some (ZI x2_69), some (ZI r139)] dX12_readOrder_142 rfl (by decide) rfl rfl ?_
                    refine zr_iload_n (pc := 143) hV dX12_readOrder_143 rfl rfl ?_
                    refine zr_i2l (pc := 144) hV dX12_readOrder_144 (by omega) ?_
                    refine zr_ldc2 (pc := 145) (v := 49) hV 49 dX12_readOrder_145 kX12_260 (by decide) ?_
                    refine zr_ldc2 (pc := 148) (v := 57) hV 57 dX12_readOrder_148 kX12_209 (by decide) ?_
                    refine zr_callSp (pc := 151) hV [ZL r139, ZL 49, ZL 57] (st := []) (c_X12_in (σ := σ139) r139 49 57 (by omega) (by omega) (by omega)) dX12_readOrder_151 mX12_170 (by decide) (Nat.le_of_ble_eq_true rfl) (Nat.le_refl _) (fun r151 hr151 pr151 => ?_)
                    refine zr_if_ne (pc := 154) hV 159 dX12_readOrder_154 (by decide) (by omega) (fun c22 => ?_) (fun c22 => ?_)
                    · show V 159 [some (ZR 0), some (ZI o), some (ZI x2_69), some (ZI r139)] [] 41 σ139
                      refine zr_aload_n (pc := 159) hV dX12_readOrder_159 rfl rfl ?_
                      refine zr_getR (pc := 160) hV 10 7 dX12_readOrder_160 fX12_38 rfl rfl rfl (by decide) (zx_g10 hσ139) (by omega) ?_
                      refine zr_iload_n (pc := 163) hV dX12_readOrder_163 rfl rfl ?_
                      refine zr_iload_n (pc := 164) hV dX12_readOrder_164 rfl rfl ?_
                      refine zr_bipush (pc := 165) hV 48 dX12_readOrder_165 (by decide) ?_
                      refine zr_isub (pc := 167) hV dX12_readOrder_167 ?_
                      refine zr_iast (pc := 168) hV dX12_readOrder_168 rfl (by decide) rfl (by omega) (fun σ168 eσ168 => ?_)
                      have hσ168 : zx_T σ168 := zx_ua7 eσ168 hσ139 (by omega)
                      have hFσ168 : ∀ a i : Int, (¬ (a = 0 ∧ i = 15) ∧ ¬ (a = 0 ∧ i = 16) ∧ ¬ (a = 0 ∧ i = 17) ∧ ¬ (a = 1 ∧ i = o) ∧ ¬ (a = 2 ∧ 12 * o ≤ i ∧ i < 12 * o + 12) ∧ ¬ (a = 3 ∧ i = o) ∧ ¬ (a = 4 ∧ i = o) ∧ ¬ (a = 5 ∧ i = o) ∧ ¬ (a = 6 ∧ 18 * o ≤ i ∧ i < 18 * o + 18) ∧ ¬ (a = 7 ∧ i = o)) → σ168 a i = σ a i := fun a i h => by rw [eσ168, zq_up_ne (fun q => h.2.2.2.2.2.2.2.2.2 ⟨q.1, by omega⟩)]; exact hFσ139 a i h
                      refine zr_aload_n (pc := 169) hV dX12_readOrder_169 rfl rfl ?_
                      refine zr_dup (pc := 170) hV dX12_readOrder_170 (fun _ => rfl) ?_
                      refine zr_getI (pc := 171) hV 15 dX12_readOrder_171 fX12_200 rfl rfl rfl (by decide) ?_
                      have t23 := zx_g15 hσ168
                      have t24 : σ168 0 15 = σ139 0 15 := by rw [eσ168]; exact zq_up_ne (by omega)
                      refine zr_iconst (pc := 174) hV 1 dX12_readOrder_174 rfl ?_
                      refine zr_iadd (pc := 175) hV dX12_readOrder_175 ?_
                      refine zr_putI (pc := 176) hV 15 dX12_readOrder_176 fX12_200 rfl rfl rfl rfl (by decide) (fun σ176 eσ176 => ?_)
                      have hσ176 : zx_T σ176 := zx_u15 eσ176 hσ168 (by omega)
                      have hFσ176 : ∀ a i : Int, (¬ (a = 0 ∧ i = 15) ∧ ¬ (a = 0 ∧ i = 16) ∧ ¬ (a = 0 ∧ i = 17) ∧ ¬ (a = 1 ∧ i = o) ∧ ¬ (a = 2 ∧ 12 * o ≤ i ∧ i < 12 * o + 12) ∧ ¬ (a = 3 ∧ i = o) ∧ ¬ (a = 4 ∧ i = o) ∧ ¬ (a = 5 ∧ i = o) ∧ ¬ (a = 6 ∧ 18 * o ≤ i ∧ i < 18 * o + 18) ∧ ¬ (a = 7 ∧ i = o)) → σ176 a i = σ a i := fun a i h => by rw [eσ176, zq_up_ne h.1]; exact hFσ168 a i h
                      refine zr_aload_n (pc := 179) hV dX12_readOrder_179 rfl rfl ?_
                      refine zr_callVi (pc := 180) hV [] (st := []) (c_X12_next (σ := σ176) hσ176 ) dX12_readOrder_180 mX12_203 rfl (by decide) (by decide) (Nat.le_of_ble_eq_true rfl) (Nat.le_refl _) (fun r180 σ180 hr180 pσ180 => ?_)
                      obtain ⟨hσ180, hfσ180, pσ180, wσ180⟩ := pσ180
                      have hFσ180 : ∀ a i : Int, (¬ (a = 0 ∧ i = 15) ∧ ¬ (a = 0 ∧ i = 16) ∧ ¬ (a = 0 ∧ i = 17) ∧ ¬ (a = 1 ∧ i = o) ∧ ¬ (a = 2 ∧ 12 * o ≤ i ∧ i < 12 * o + 12) ∧ ¬ (a = 3 ∧ i = o) ∧ ¬ (a = 4 ∧ i = o) ∧ ¬ (a = 5 ∧ i = o) ∧ ¬ (a = 6 ∧ 18 * o ≤ i ∧ i < 18 * o + 18) ∧ ¬ (a = 7 ∧ i = o)) → σ180 a i = σ a i := fun a i h => (hfσ180 a i h.1).trans (hFσ176 a i h)
                      have t25 := zx_g14 hσ176
                      have t26 : σ176 0 14 = σ168 0 14 := by rw [eσ176]; exact zq_up_ne (by omega)
                      have t27 : σ168 0 14 = σ139 0 14 := by rw [eσ168]; exact zq_up_ne (by omega)
                      have t28 : σ139 0 14 = σ130 0 14 := hfσ139 _ _ (by omega)
                      have t29 : σ130 0 14 = σ_69 0 14 := hfσ130 _ _ (by omega)
                      have t30 : σ_69 0 14 = σ 0 14 := hFσ_69 _ _ (by omega)
                      have t31 := zx_g15 hσ176
                      have t32 : σ176 0 15 = (σ168 0 15) + 1 := by rw [eσ176]; exact zq_up_same _ _ _ _
                      have t33 := zx_g15 hσ180
                      refine zr_if_ge (pc := 183) hV 190 dX12_readOrder_183 (by decide) (by omega) (fun c34 => ?_) (fun c34 => ?_)
                      · show V 190 [some (ZR 0), some (ZI o), some (ZI x2_69), some (ZI r139)] [] 41 σ180
                        refine zr_iconst (pc := 190) hV 0 dX12_readOrder_190 rfl ?_
                        show V 191 [some (ZR 0), some (ZI o), some (ZI x2_69), some (ZI r139)] [ZI 0] 41 σ180
                        exact zr_zret (pc := 191) hV dX12_readOrder_191 rfl rfl (by omega) ⟨_, rfl, ⟨by decide, by decide⟩, hσ180, hFσ180, (by omega), (show (0 : Int) = 1 → zx_A σ180 o ∧ zx_B σ180 o from (fun h => absurd h (by omega)))⟩
                      · show V 186 [some (ZR 0), some (ZI o), some (ZI x2_69), some (ZI r139)] [] 41 σ180
                        refine zr_iconst (pc := 186) hV 1 dX12_readOrder_186 rfl ?_
                        refine zr_goto (pc := 187) hV 191 dX12_readOrder_187 (by decide) ?_
                        show V 191 [some (ZR 0), some (ZI o), some (ZI x2_69), some (ZI r139)] [ZI 1] 41 σ180
                        exact zr_zret (pc := 191) hV dX12_readOrder_191 rfl rfl (by omega) ⟨_, rfl, ⟨by decide, by decide⟩, hσ180, hFσ180, (by omega), (show (1 : Int) = 1 → zx_A σ180 o ∧ zx_B σ180 o from (fun _ => ⟨zx_A_fr (fun i => by rw [hfσ180 5 i (by omega), eσ176, zq_up_ne (by omega), eσ168, zq_up_ne (by omega), hfσ139 5 i (by omega), hfσ130 5 i (by omega)]) (fun i => by rw [hfσ180 6 i (by omega), eσ176, zq_up_ne (by omega), eσ168, zq_up_ne (by omega), hfσ139 6 i (by omega), hfσ130 6 i (by omega)]) hi69_2, zx_B_fr (fun i => by rw [hfσ180 2 i (by omega), eσ176, zq_up_ne (by omega), eσ168, zq_up_ne (by omega), hfσ139 2 i (by omega), hfσ130 2 i (by omega)]) (by rw [hfσ180 0 2 (by omega), eσ176, zq_up_ne (by omega), eσ168, zq_up_ne (by omega), hfσ139 0 2 (by omega), hfσ130 0 2 (by omega)]) hi69_3⟩))⟩
                    · show V 157 [some (ZR 0), some (ZI o), some (ZI x2_69), some (ZI r139)] [] 41 σ139
                      refine zr_iconst (pc := 157) hV 0 dX12_readOrder_157 rfl ?_
                      exact zr_zret (pc := 158) hV dX12_readOrder_158 rfl rfl (by omega) ⟨_, rfl, ⟨by decide, by decide⟩, hσ139, hFσ139, (by omega), (show (0 : Int) = 1 → zx_A σ139 o ∧ zx_B σ139 o from (fun h => absurd h (by omega)))⟩
                  · show V 136 [some (ZR 0), some (ZI o), some (ZI x2_69), none] [] 41 σ130
                    refine zr_iconst (pc := 136) hV 0 dX12_readOrder_136 rfl ?_
                    exact zr_zret (pc := 137) hV dX12_readOrder_137 rfl rfl (by omega) ⟨_, rfl, ⟨by decide, by decide⟩, hσ130, hFσ130, (by omega), (show (0 : Int) = 1 → zx_A σ130 o ∧ zx_B σ130 o from (fun h => absurd h (by omega)))⟩
                · show V 73 [some (ZR 0), some (ZI o), some (ZI x2_69), none] [] 41 σ_69
                  refine zr_aload_n (pc := 73) hV dX12_readOrder_73 rfl rfl ?_
                  refine zr_iload_n (pc := 74) hV dX12_readOrder_74 rfl rfl ?_
                  refine zr_aload_n (pc := 75) hV dX12_readOrder_75 rfl rfl ?_
                  refine zr_getR (pc := 76) hV 8 5 dX12_readOrder_76 fX12_32 rfl rfl rfl (by decide) (zx_g8 hσ_69) (by omega) ?_
                  refine zr_iload_n (pc := 79) hV dX12_readOrder_79 rfl rfl ?_
                  refine zr_iald (pc := 80) hV dX12_readOrder_80 rfl (by decide) rfl (by omega) ?_
                  have t35 := zx_ga5 hσ_69 o
                  refine zr_callVi (pc := 81) hV [ZI o, ZI (σ_69 5 o)] (st := []) (c_X12_readAct (σ := σ_69) hσ_69 o (σ_69 5 o) (by omega) (by omega)) dX12_readOrder_81 mX12_257 rfl (by decide) (by decide) (Nat.le_of_ble_eq_true rfl) (Nat.le_refl _) (fun r81 σ81 hr81 pσ81 => ?_)
                  obtain ⟨hσ81, hfσ81, pσ81⟩ := pσ81
                  have hFσ81 : ∀ a i : Int, (¬ (a = 0 ∧ i = 15) ∧ ¬ (a = 0 ∧ i = 16) ∧ ¬ (a = 0 ∧ i = 17) ∧ ¬ (a = 1 ∧ i = o) ∧ ¬ (a = 2 ∧ 12 * o ≤ i ∧ i < 12 * o + 12) ∧ ¬ (a = 3 ∧ i = o) ∧ ¬ (a = 4 ∧ i = o) ∧ ¬ (a = 5 ∧ i = o) ∧ ¬ (a = 6 ∧ 18 * o ≤ i ∧ i < 18 * o + 18) ∧ ¬ (a = 7 ∧ i = o)) → σ81 a i = σ a i := fun a i h => (hfσ81 a i ⟨h.1, h.2.2.1, (fun q => h.2.2.2.2.2.2.2.2.1 ⟨q.1, by omega⟩)⟩).trans (hFσ_69 a i h)
                  refine zr_if_ne (pc := 84) hV 89 dX12_readOrder_84 (by decide) (by omega) (fun c36 => ?_) (fun c36 => ?_)
                  · show V 89 [some (ZR 0), some (ZI o), some (ZI x2_69), none] [] 41 σ81
                    refine zr_aload_n (pc := 89) hV dX12_readOrder_89 rfl rfl ?_
                    refine zr_getR (pc := 90) hV 8 5 dX12_readOrder_90 fX12_32 rfl rfl rfl (by decide) (zx_g8 hσ81) (by omega) ?_
                    refine zr_iload_n (pc := 93) hV dX12_readOrder_93 rfl rfl ?_
                    refine zr_dup2 (pc := 94) hV dX12_readOrder_94 (fun _ => rfl) (fun _ => rfl) ?_
                    refine zr_iald (pc := 95) hV dX12_readOrder_95 rfl (by decide) rfl (by omega) ?_
                    have t37 := zx_ga5 hσ81 o
                    have t38 : σ81 5 o = σ_69 5 o := hfσ81 _ _ (by omega)
                    refine zr_iconst (pc := 96) hV 1 dX12_readOrder_96 rfl ?_
                    refine zr_iadd (pc := 97) hV dX12_readOrder_97 ?_
                    refine zr_iast (pc := 98) hV dX12_readOrder_98 rfl (by decide) rfl (by omega) (fun σ98 eσ98 => ?_)
                    have hσ98 : zx_T σ98 := zx_ua5 eσ98 hσ81 (by omega)
                    have hFσ98 : ∀ a i : Int, (¬ (a = 0 ∧ i = 15) ∧ ¬ (a = 0 ∧ i = 16) ∧ ¬ (a = 0 ∧ i = 17) ∧ ¬ (a = 1 ∧ i = o) ∧ ¬ (a = 2 ∧ 12 * o ≤ i ∧ i < 12 * o + 12) ∧ ¬ (a = 3 ∧ i = o) ∧ ¬ (a = 4 ∧ i = o) ∧ ¬ (a = 5 ∧ i = o) ∧ ¬ (a = 6 ∧ 18 * o ≤ i ∧ i < 18 * o + 18) ∧ ¬ (a = 7 ∧ i = o)) → σ98 a i = σ a i := fun a i h => by rw [eσ98, zq_up_ne (fun q => h.2.2.2.2.2.2.2.1 ⟨q.1, by omega⟩)]; exact hFσ81 a i h
                    have a98 : σ98 5 o = σ_69 5 o + 1 := by rw [eσ98, zq_up_same]; rw [hfσ81 5 o (by omega)]
                    have za98 : zx_A σ98 o := zx_A_step hi69_2 rfl a98 (fun n h1 h2 => by rw [eσ98, zq_up_ne (by omega)]; exact hfσ81 6 _ (by omega)) (by rw [eσ98, zq_up_ne (by omega)]; exact pσ81.2 (by omega))
                    have zb98 : zx_B σ98 o := zx_B_fr (fun i => by rw [eσ98, zq_up_ne (by omega)]; exact hfσ81 2 i (by omega)) (by rw [eσ98, zq_up_ne (by omega)]; exact hfσ81 0 2 (by omega)) hi69_3
                    refine zr_aload_n (pc := 99) hV dX12_readOrder_99 rfl rfl ?_
                    refine zr_getR (pc := 100) hV 8 5 dX12_readOrder_100 fX12_32 rfl rfl rfl (by decide) (zx_g8 hσ98) (by omega) ?_
                    refine zr_iload_n (pc := 103) hV dX12_readOrder_103 rfl rfl ?_
                    refine zr_iald (pc := 104) hV dX12_readOrder_104 rfl (by decide) rfl (by omega) ?_
                    have t39 := zx_ga5 hσ98 o
                    have t40 : σ98 5 o = (σ81 5 o) + 1 := by rw [eσ98]; exact zq_up_same _ _ _ _
                    refine zr_iconst (pc := 105) hV 3 dX12_readOrder_105 rfl ?_
                    refine zr_icmp_ge (pc := 106) hV 122 dX12_readOrder_106 (by decide) (by omega) ⟨by decide, by decide⟩ (fun c41 => ?_) (fun c41 => ?_)
                    · show V 122 [some (ZR 0), some (ZI o), some (ZI x2_69), none] [] 41 σ98
                      refine zr_iconst (pc := 122) hV 0 dX12_readOrder_122 rfl ?_
                      show V 123 [some (ZR 0), some (ZI o), some (ZI x2_69), none] [ZI 0] 41 σ98
                      refine zr_istore_n (pc := 123) hV [some (ZR 0), some (ZI o), some (ZI 0), none] dX12_readOrder_123 rfl (by decide) rfl rfl ?_
                      have zA := za98
                      have zB := zb98
                      refine zr_goto (pc := 124) hV 69 dX12_readOrder_124 (by decide) ?_
                      exact ih69 0 σ98 (by omega) hσ98 hFσ98 (by omega) (by omega) zA zB (by omega)
                    · show V 109 [some (ZR 0), some (ZI o), some (ZI x2_69), none] [] 41 σ98
                      refine zr_aload_n (pc := 109) hV dX12_readOrder_109 rfl rfl ?_
                      refine zr_bipush (pc := 110) hV 44 dX12_readOrder_110 (by decide) ?_
                      refine zr_callVi (pc := 112) hV [ZI 44] (st := []) (c_X12_takes (σ := σ98) hσ98 44 (by omega)) dX12_readOrder_112 mX12_234 rfl (by decide) (by decide) (Nat.le_of_ble_eq_true rfl) (Nat.le_refl _) (fun r112 σ112 hr112 pσ112 => ?_)
                      obtain ⟨hσ112, hfσ112, pσ112⟩ := pσ112
                      have hFσ112 : ∀ a i : Int, (¬ (a = 0 ∧ i = 15) ∧ ¬ (a = 0 ∧ i = 16) ∧ ¬ (a = 0 ∧ i = 17) ∧ ¬ (a = 1 ∧ i = o) ∧ ¬ (a = 2 ∧ 12 * o ≤ i ∧ i < 12 * o + 12) ∧ ¬ (a = 3 ∧ i = o) ∧ ¬ (a = 4 ∧ i = o) ∧ ¬ (a = 5 ∧ i = o) ∧ ¬ (a = 6 ∧ 18 * o ≤ i ∧ i < 18 * o + 18) ∧ ¬ (a = 7 ∧ i = o)) → σ112 a i = σ a i := fun a i h => (hfσ112 a i h.1).trans (hFσ98 a i h)
                      have t42 := zx_g15 hσ98
                      have t43 : σ98 0 15 = σ81 0 15 := by rw [eσ98]; exact zq_up_ne (by omega)
                      have t44 := zx_g15 hσ112
                      refine zr_if_eq (pc := 115) hV 122 dX12_readOrder_115 (by decide) (by omega) (fun c45 => ?_) (fun c45 => ?_)
                      · show V 122 [some (ZR 0), some (ZI o), some (ZI x2_69), none] [] 41 σ112
                        refine zr_iconst (pc := 122) hV 0 dX12_readOrder_122 rfl ?_
                        show V 123 [some (ZR 0), some (ZI o), some (ZI x2_69), none] [ZI 0] 41 σ112
                        refine zr_istore_n (pc := 123) hV [some (ZR 0), some (ZI o), some (ZI 0), none] dX12_readOrder_123 rfl (by decide) rfl rfl ?_
                        have a112 : σ112 5 o = σ98 5 o := hfσ112 5 o (by omega)
                        have zA : zx_A σ112 o := zx_A_fr (fun i => hfσ112 5 i (by omega)) (fun i => hfσ112 6 i (by omega)) za98
                        have zB : zx_B σ112 o := zx_B_fr (fun i => hfσ112 2 i (by omega)) (hfσ112 0 2 (by omega)) zb98
                        refine zr_goto (pc := 124) hV 69 dX12_readOrder_124 (by decide) ?_
                        exact ih69 0 σ112 (by omega) hσ112 hFσ112 (by omega) (by omega) zA zB (by omega)
                      · show V 118 [some (ZR 0), some (ZI o), some (ZI x2_69), none] [] 41 σ112
                        refine zr_iconst (pc := 118) hV 1 dX12_readOrder_118 rfl ?_
                        refine zr_goto (pc := 119) hV 123 dX12_readOrder_119 (by decide) ?_
                        show V 123 [some (ZR 0), some (ZI o), some (ZI x2_69), none] [ZI 1] 41 σ112
                        refine zr_istore_n (pc := 123) hV [some (ZR 0), some (ZI o), some (ZI 1), none] dX12_readOrder_123 rfl (by decide) rfl rfl ?_
                        have a112 : σ112 5 o = σ98 5 o := hfσ112 5 o (by omega)
                        have zA : zx_A σ112 o := zx_A_fr (fun i => hfσ112 5 i (by omega)) (fun i => hfσ112 6 i (by omega)) za98
                        have zB : zx_B σ112 o := zx_B_fr (fun i => hfσ112 2 i (by omega)) (hfσ112 0 2 (by omega)) zb98
                        refine zr_goto (pc := 124) hV 69 dX12_readOrder_124 (by decide) ?_
                        exact ih69 1 σ112 (by omega) hσ112 hFσ112 (by omega) (by omega) zA zB (by omega)
                  · show V 87 [some (ZR 0), some (ZI o), some (ZI x2_69), none] [] 41 σ81
                    refine zr_iconst (pc := 87) hV 0 dX12_readOrder_87 rfl ?_
                    exact zr_zret (pc := 88) hV dX12_readOrder_88 rfl rfl (by omega) ⟨_, rfl, ⟨by decide, by decide⟩, hσ81, hFσ81, (by omega), (show (0 : Int) = 1 → zx_A σ81 o ∧ zx_B σ81 o from (fun h => absurd h (by omega)))⟩
            exact L69 (3 - σ66 5 o + 1 : Int).toNat 1 σ66 (by omega) hσ66 hFσ66 (by omega) (by omega) (fun n h1 h2 => absurd h2 (by rw [eσ66, zq_up_same]; omega)) B66 (by omega)
          · show V 58 [some (ZR 0), some (ZI o), none, none] [] 41 σ52
            refine zr_iconst (pc := 58) hV 0 dX12_readOrder_58 rfl ?_
            exact zr_zret (pc := 59) hV dX12_readOrder_59 rfl rfl (by omega) ⟨_, rfl, ⟨by decide, by decide⟩, hσ52, hFσ52, (by omega), (show (0 : Int) = 1 → zx_A σ52 o ∧ zx_B σ52 o from (fun h => absurd h (by omega)))⟩
set_option maxHeartbeats 800000 in
theorem c_X12_order {σ : zq_S} (hσ : zx_T σ)  (Mσ : zx_M σ) (Oσ : zx_O σ) : zq_C zx_w yX12_order cX12_order 3 (some .int) 6 143 41 41 [ZR 0] σ (zq_pi (fun r τ => zx_T τ ∧ (∀ a i : Int, (¬ (a = 0 ∧ i = 14) ∧ ¬ (a = 0 ∧ i = 15) ∧ ¬ (a = 0 ∧ i = 16) ∧ ¬ (a = 0 ∧ i = 17) ∧ ¬ (a = 0 ∧ i = 18) ∧ ¬ (a = 0 ∧ i = 3) ∧ ¬ (a = 0 ∧ i = 30) ∧ ¬ (a = 1 ∧ i = (σ 0 3)) ∧ ¬ (a = 2 ∧ 12 * (σ 0 3) ≤ i ∧ i < 12 * (σ 0 3) + 12) ∧ ¬ (a = 3 ∧ i = (σ 0 3)) ∧ ¬ (a = 4 ∧ i = (σ 0 3)) ∧ ¬ (a = 5 ∧ i = (σ 0 3)) ∧ ¬ (a = 6 ∧ 18 * (σ 0 3) ≤ i ∧ i < 18 * (σ 0 3) + 18) ∧ ¬ (a = 7 ∧ i = (σ 0 3)) ∧ a ≠ 8 ∧ a ≠ 9) → τ a i = σ a i) ∧ (True) ∧ zx_M τ ∧ zx_O τ)) := by
  refine zq_C_of (by decide) (Nat.le_refl _) (Nat.le_of_ble_eq_true rfl) [some (ZR 0), none, none] rfl (fun V hV => ?_)
  show V 0 [some (ZR 0), none, none] [] 41 σ
  refine zr_aload_n (pc := 0) hV dX12_order_0 rfl rfl ?_
  refine zr_aload_n (pc := 1) hV dX12_order_1 rfl rfl ?_
  refine zr_getI (pc := 2) hV 3 dX12_order_2 fX12_150 rfl rfl rfl (by decide) ?_
  have t1 := zx_g3 hσ
  refine zr_callVi (pc := 5) hV [ZI (σ 0 3)] (st := []) (c_X12_readOrder (σ := σ) hσ (σ 0 3) (by omega)) dX12_order_5 mX12_262 rfl (by decide) (by decide) (Nat.le_of_ble_eq_true rfl) (Nat.le_refl _) (fun r5 σ5 hr5 pσ5 => ?_)
  obtain ⟨hσ5, hfσ5, pσ5, wσ5⟩ := pσ5
  have Mσ5 : zx_M σ5 := zx_M_fr (fun i => hfσ5 18 i (by omega)) (hfσ5 0 30 (by omega)) (hfσ5 0 2 (by omega)) (hfσ5 0 3 (by omega)) Mσ
  have Oσ5 : zx_O σ5 := zx_O_old hσ (hfσ5 0 2 (by omega)) (hfσ5 0 3 (by omega)) (fun i h => hfσ5 2 i (by omega)) (fun i h => hfσ5 5 i (by omega)) (fun i h => hfσ5 6 i (by omega)) Oσ
  have hFσ5 : ∀ a i : Int, (¬ (a = 0 ∧ i = 14) ∧ ¬ (a = 0 ∧ i = 15) ∧ ¬ (a = 0 ∧ i = 16) ∧ ¬ (a = 0 ∧ i = 17) ∧ ¬ (a = 0 ∧ i = 18) ∧ ¬ (a = 0 ∧ i = 3) ∧ ¬ (a = 0 ∧ i = 30) ∧ ¬ (a = 1 ∧ i = (σ 0 3)) ∧ ¬ (a = 2 ∧ 12 * (σ 0 3) ≤ i ∧ i < 12 * (σ 0 3) + 12) ∧ ¬ (a = 3 ∧ i = (σ 0 3)) ∧ ¬ (a = 4 ∧ i = (σ 0 3)) ∧ ¬ (a = 5 ∧ i = (σ 0 3)) ∧ ¬ (a = 6 ∧ 18 * (σ 0 3) ≤ i ∧ i < 18 * (σ 0 3) + 18) ∧ ¬ (a = 7 ∧ i = (σ 0 3)) ∧ a ≠ 8 ∧ a ≠ 9) → σ5 a i = σ a i := fun a i h => (hfσ5 a i ⟨h.2.1, h.2.2.1, h.2.2.2.1, (fun q => h.2.2.2.2.2.2.2.1 ⟨q.1, by omega⟩), (fun q => h.2.2.2.2.2.2.2.2.1 ⟨q.1, by omega⟩), (fun q => h.2.2.2.2.2.2.2.2.2.1 ⟨q.1, by omega⟩), (fun q => h.2.2.2.2.2.2.2.2.2.2.1 ⟨q.1, by omega⟩), (fun q => h.2.2.2.2.2.2.2.2.2.2.2.1 ⟨q.1, by omega⟩), (fun q => h.2.2.2.2.2.2.2.2.2.2.2.2.1 ⟨q.1, by omega⟩), (fun q => h.2.2.2.2.2.2.2.2.2.2.2.2.2.1 ⟨q.1, by omega⟩)⟩)
  refine zr_istore_n (pc := 8) hV [some (ZR 0), some (ZI r5), none] dX12_order_8 rfl (by decide) rfl rfl ?_
  refine zr_aload_n (pc := 9) hV dX12_order_9 rfl rfl ?_
  refine zr_iconst (pc := 10) hV 0 dX12_order_10 rfl ?_
  refine zr_putI (pc := 11) hV 14 dX12_order_11 fX12_197 rfl rfl rfl rfl (by decide) (fun σ11 eσ11 => ?_)
  have hσ11 : zx_T σ11 := zx_u14 eσ11 hσ5 (by omega)
  have hFσ11 : ∀ a i : Int, (¬ (a = 0 ∧ i = 14) ∧ ¬ (a = 0 ∧ i = 15) ∧ ¬ (a = 0 ∧ i = 16) ∧ ¬ (a = 0 ∧ i = 17) ∧ ¬ (a = 0 ∧ i = 18) ∧ ¬ (a = 0 ∧ i = 3) ∧ ¬ (a = 0 ∧ i = 30) ∧ ¬ (a = 1 ∧ i = (σ 0 3)) ∧ ¬ (a = 2 ∧ 12 * (σ 0 3) ≤ i ∧ i < 12 * (σ 0 3) + 12) ∧ ¬ (a = 3 ∧ i = (σ 0 3)) ∧ ¬ (a = 4 ∧ i = (σ 0 3)) ∧ ¬ (a = 5 ∧ i = (σ 0 3)) ∧ ¬ (a = 6 ∧ 18 * (σ 0 3) ≤ i ∧ i < 18 * (σ 0 3) + 18) ∧ ¬ (a = 7 ∧ i = (σ 0 3)) ∧ a ≠ 8 ∧ a ≠ 9) → σ11 a i = σ a i := fun a i h => by rw [eσ11, zq_up_ne h.1]; exact hFσ5 a i h
  have Mσ11 : zx_M σ11 := zx_M_fr (fun i => by rw [eσ11]; exact zq_up_ne (by omega)) (by rw [eσ11]; exact zq_up_ne (by omega)) (by rw [eσ11]; exact zq_up_ne (by omega)) (by rw [eσ11]; exact zq_up_ne (by omega)) Mσ5
  have Oσ11 : zx_O σ11 := zx_O_fr (fun i => by rw [eσ11]; exact zq_up_ne (by omega)) (fun i => by rw [eσ11]; exact zq_up_ne (by omega)) (fun i => by rw [eσ11]; exact zq_up_ne (by omega)) (by rw [eσ11]; exact zq_up_ne (by omega)) (by rw [eσ11]; exact zq_up_ne (by omega)) Oσ5
  refine zr_iload_n (pc := 14) hV dX12_order_14 rfl rfl ?_
  refine zr_if_ne (pc := 15) hV 26 dX12_order_15 (by decide) (by omega) (fun c2 => ?_) (fun c2 => ?_)
  · show V 26 [some (ZR 0), some (ZI r5), none] [] 41 σ11
    refine zr_aload_n (pc := 26) hV dX12_order_26 rfl rfl ?_
    refine zr_aload_n (pc := 27) hV dX12_order_27 rfl rfl ?_
    refine zr_getI (pc := 28) hV 3 dX12_order_28 fX12_150 rfl rfl rfl (by decide) ?_
    have t3 := zx_g3 hσ11
    have t4 : σ11 0 3 = σ5 0 3 := by rw [eσ11]; exact zq_up_ne (by omega)
    have t5 : σ5 0 3 = σ 0 3 := hfσ5 _ _ (by omega)
    refine zr_callVp (pc := 31) hV [ZI (σ11 0 3)] (st := []) (c_X12_sharedWith (σ := σ11) hσ11 (σ11 0 3) (by omega)) dX12_order_31 mX12_265 rfl (by decide) (by decide) (Nat.le_of_ble_eq_true rfl) (Nat.le_refl _) (fun r31 hr31 pr31 => ?_)
    refine zr_istore_n (pc := 34) hV [some (ZR 0), some (ZI r5), some (ZI r31)] dX12_order_34 rfl (by decide) rfl rfl ?_
    refine zr_iload_n (pc := 35) hV dX12_order_35 rfl rfl ?_
    refine zr_if_lt (pc := 36) hV 47 dX12_order_36 (by decide) (by omega) (fun c6 => ?_) (fun c6 => ?_)
    · show V 47 [some (ZR 0), some (ZI r5), some (ZI r31)] [] 41 σ11
      refine zr_aload_n (pc := 47) hV dX12_order_47 rfl rfl ?_
      have z3 : σ11 0 3 = σ 0 3 := by rw [eσ11, zq_up_ne (by omega)]; exact hfσ5 0 3 (by omega)
      have t7 := zx_g3 hσ11
      have t8 : σ11 0 3 = σ5 0 3 := by rw [eσ11]; exact zq_up_ne (by omega)
      have t9 : σ5 0 3 = σ 0 3 := hfσ5 _ _ (by omega)
      have t10 := zx_g3 hσ11
      have t11 : σ11 0 3 = σ5 0 3 := by rw [eσ11]; exact zq_up_ne (by omega)
      have t12 : σ5 0 3 = σ 0 3 := hfσ5 _ _ (by omega)
      refine zr_callVi (pc := 48) hV [] (st := []) (c_X12_addOrder (σ := σ11) hσ11 (by rw [z3]; exact zx_A_fr (fun i => by rw [eσ11]; exact zq_up_ne (by omega)) (fun i => by rw [eσ11]; exact zq_up_ne (by omega)) (wσ5 (by omega)).1) (by rw [z3]; exact zx_B_fr (fun i => by rw [eσ11]; exact zq_up_ne (by omega)) (by rw [eσ11]; exact zq_up_ne (by omega)) (wσ5 (by omega)).2) Mσ11 Oσ11) dX12_order_48 mX12_268 rfl (by decide) (by decide) (Nat.le_of_ble_eq_true rfl) (Nat.le_refl _) (fun r48 σ48 hr48 pσ48 => ?_)
      obtain ⟨hσ48, hfσ48, pσ48, Mσ48, Oσ48⟩ := pσ48
      have hFσ48 : ∀ a i : Int, (¬ (a = 0 ∧ i = 14) ∧ ¬ (a = 0 ∧ i = 15) ∧ ¬ (a = 0 ∧ i = 16) ∧ ¬ (a = 0 ∧ i = 17) ∧ ¬ (a = 0 ∧ i = 18) ∧ ¬ (a = 0 ∧ i = 3) ∧ ¬ (a = 0 ∧ i = 30) ∧ ¬ (a = 1 ∧ i = (σ 0 3)) ∧ ¬ (a = 2 ∧ 12 * (σ 0 3) ≤ i ∧ i < 12 * (σ 0 3) + 12) ∧ ¬ (a = 3 ∧ i = (σ 0 3)) ∧ ¬ (a = 4 ∧ i = (σ 0 3)) ∧ ¬ (a = 5 ∧ i = (σ 0 3)) ∧ ¬ (a = 6 ∧ 18 * (σ 0 3) ≤ i ∧ i < 18 * (σ 0 3) + 18) ∧ ¬ (a = 7 ∧ i = (σ 0 3)) ∧ a ≠ 8 ∧ a ≠ 9) → σ48 a i = σ a i := fun a i h => (hfσ48 a i ⟨h.2.2.2.2.2.1, h.2.2.2.2.2.2.1, h.2.2.2.2.2.2.2.2.2.2.2.2.2.2.1, h.2.2.2.2.2.2.2.2.2.2.2.2.2.2.2⟩).trans (hFσ11 a i h)
      exact zr_iret (pc := 51) hV dX12_order_51 rfl rfl ⟨_, rfl, (by omega), hσ48, hFσ48, trivial, Mσ48, Oσ48⟩
    · show V 39 [some (ZR 0), some (ZI r5), some (ZI r31)] [] 41 σ11
      refine zr_aload_n (pc := 39) hV dX12_order_39 rfl rfl ?_
      refine zr_iload_n (pc := 40) hV dX12_order_40 rfl rfl ?_
      refine zr_putI (pc := 41) hV 18 dX12_order_41 fX12_157 rfl rfl rfl rfl (by decide) (fun σ41 eσ41 => ?_)
      have hσ41 : zx_T σ41 := zx_u18 eσ41 hσ11 (by omega)
      have hFσ41 : ∀ a i : Int, (¬ (a = 0 ∧ i = 14) ∧ ¬ (a = 0 ∧ i = 15) ∧ ¬ (a = 0 ∧ i = 16) ∧ ¬ (a = 0 ∧ i = 17) ∧ ¬ (a = 0 ∧ i = 18) ∧ ¬ (a = 0 ∧ i = 3) ∧ ¬ (a = 0 ∧ i = 30) ∧ ¬ (a = 1 ∧ i = (σ 0 3)) ∧ ¬ (a = 2 ∧ 12 * (σ 0 3) ≤ i ∧ i < 12 * (σ 0 3) + 12) ∧ ¬ (a = 3 ∧ i = (σ 0 3)) ∧ ¬ (a = 4 ∧ i = (σ 0 3)) ∧ ¬ (a = 5 ∧ i = (σ 0 3)) ∧ ¬ (a = 6 ∧ 18 * (σ 0 3) ≤ i ∧ i < 18 * (σ 0 3) + 18) ∧ ¬ (a = 7 ∧ i = (σ 0 3)) ∧ a ≠ 8 ∧ a ≠ 9) → σ41 a i = σ a i := fun a i h => by rw [eσ41, zq_up_ne h.2.2.2.2.1]; exact hFσ11 a i h
      have Mσ41 : zx_M σ41 := zx_M_fr (fun i => by rw [eσ41]; exact zq_up_ne (by omega)) (by rw [eσ41]; exact zq_up_ne (by omega)) (by rw [eσ41]; exact zq_up_ne (by omega)) (by rw [eσ41]; exact zq_up_ne (by omega)) Mσ11
      have Oσ41 : zx_O σ41 := zx_O_fr (fun i => by rw [eσ41]; exact zq_up_ne (by omega)) (fun i => by rw [eσ41]; exact zq_up_ne (by omega)) (fun i => by rw [eσ41]; exact zq_up_ne (by omega)) (by rw [eσ41]; exact zq_up_ne (by omega)) (by rw [eσ41]; exact zq_up_ne (by omega)) Oσ11
      refine zr_bipush (pc := 44) hV (-2) dX12_order_44 (by decide) ?_
      exact zr_iret (pc := 46) hV dX12_order_46 rfl rfl ⟨_, rfl, ⟨by decide, by decide⟩, hσ41, hFσ41, trivial, Mσ41, Oσ41⟩
  · show V 18 [some (ZR 0), some (ZI r5), none] [] 41 σ11
    refine zr_bipush (pc := 18) hV (-20) dX12_order_18 (by decide) ?_
    refine zr_aload_n (pc := 20) hV dX12_order_20 rfl rfl ?_
    refine zr_getI (pc := 21) hV 15 dX12_order_21 fX12_200 rfl rfl rfl (by decide) ?_
    have t13 := zx_g15 hσ11
    have t14 : σ11 0 15 = σ5 0 15 := by rw [eσ11]; exact zq_up_ne (by omega)
    refine zr_isub (pc := 24) hV dX12_order_24 ?_
    exact zr_iret (pc := 25) hV dX12_order_25 rfl rfl ⟨_, rfl, (by omega), hσ11, hFσ11, trivial, Mσ11, Oσ11⟩
