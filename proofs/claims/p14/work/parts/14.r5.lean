set_option maxHeartbeats 800000 in
theorem c_X12_like {σ : zq_S} (hσ : zx_T σ) (one other : Int) (q0 : zq_in one) (q1 : zq_in other) (Oσ : zx_O σ) : zq_C zx_w yX12_like cX12_like 7 (some .int) 3 73 41 41 [ZR 0, ZI one, ZI other] σ (zq_pi (fun r τ => zx_T τ ∧ (∀ a i : Int, (¬ (a = 0 ∧ i = 22) ∧ a ≠ 11 ∧ a ≠ 12 ∧ a ≠ 13) → τ a i = σ a i) ∧ (True) ∧ zx_O τ)) := by
  refine zq_C_of (by decide) (Nat.le_refl _) (Nat.le_of_ble_eq_true rfl) [some (ZR 0), some (ZI one), some (ZI other), none, none, none, none] rfl (fun V hV => ?_)
  show V 0 [some (ZR 0), some (ZI one), some (ZI other), none, none, none, none] [] 41 σ
  refine zr_aload_n (pc := 0) hV dX12_like_0 rfl rfl ?_
  refine zr_iload_n (pc := 1) hV dX12_like_1 rfl rfl ?_
  refine zr_callVp (pc := 2) hV [ZI one] (st := []) (c_X12_isOrder (σ := σ) hσ one (by omega)) dX12_like_2 mX12_271 rfl (by decide) (by decide) (Nat.le_of_ble_eq_true rfl) (Nat.le_refl _) (fun r2 hr2 pr2 => ?_)
  have t1 := zx_g3 hσ
  refine zr_if_eq (pc := 5) hV 16 dX12_like_5 (by decide) (by omega) (fun c2 => ?_) (fun c2 => ?_)
  · show V 16 [some (ZR 0), some (ZI one), some (ZI other), none, none, none, none] [] 41 σ
    refine zr_iconst (pc := 16) hV (-1) dX12_like_16 rfl ?_
    exact zr_iret (pc := 17) hV dX12_like_17 rfl rfl ⟨_, rfl, ⟨by decide, by decide⟩, hσ, (fun a i _ => rfl), trivial, Oσ⟩
  · show V 8 [some (ZR 0), some (ZI one), some (ZI other), none, none, none, none] [] 41 σ
    refine zr_aload_n (pc := 8) hV dX12_like_8 rfl rfl ?_
    refine zr_iload_n (pc := 9) hV dX12_like_9 rfl rfl ?_
    refine zr_callVp (pc := 10) hV [ZI other] (st := []) (c_X12_isOrder (σ := σ) hσ other (by omega)) dX12_like_10 mX12_271 rfl (by decide) (by decide) (Nat.le_of_ble_eq_true rfl) (Nat.le_refl _) (fun r10 hr10 pr10 => ?_)
    have t3 := zx_g3 hσ
    refine zr_if_ne (pc := 13) hV 18 dX12_like_13 (by decide) (by omega) (fun c4 => ?_) (fun c4 => ?_)
    · show V 18 [some (ZR 0), some (ZI one), some (ZI other), none, none, none, none] [] 41 σ
      refine zr_aload_n (pc := 18) hV dX12_like_18 rfl rfl ?_
      refine zr_iload_n (pc := 19) hV dX12_like_19 rfl rfl ?_
      refine zr_callVp (pc := 20) hV [ZI one] (st := []) (c_X12_namesOf (σ := σ) hσ one (by omega) (Oσ one (by omega) (by omega)).1) dX12_like_20 mX12_332 rfl (by decide) (by decide) (Nat.le_of_ble_eq_true rfl) (Nat.le_refl _) (fun r20 hr20 pr20 => ?_)
      refine zr_aload_n (pc := 23) hV dX12_like_23 rfl rfl ?_
      refine zr_iload_n (pc := 24) hV dX12_like_24 rfl rfl ?_
      refine zr_callVp (pc := 25) hV [ZI other] (st := [ZI r20]) (c_X12_namesOf (σ := σ) hσ other (by omega) (Oσ other (by omega) (by omega)).1) dX12_like_25 mX12_332 rfl (by decide) (by decide) (Nat.le_of_ble_eq_true rfl) (Nat.le_refl _) (fun r25 hr25 pr25 => ?_)
      refine zr_ior (pc := 28) hV dX12_like_28 ?_
      have t5 := zq_or_in r20 r25
      refine zr_istore_n (pc := 29) hV [some (ZR 0), some (ZI one), some (ZI other), some (ZI (zq_or r20 r25)), none, none, none] dX12_like_29 rfl (by decide) rfl rfl ?_
      refine zr_iload_n (pc := 30) hV dX12_like_30 rfl rfl ?_
      refine zr_callSp (pc := 31) hV [ZI (zq_or r20 r25)] (st := []) (c_X12_statesOf (σ := σ) (zq_or r20 r25) (by omega)) dX12_like_31 mX12_313 (by decide) (Nat.le_of_ble_eq_true rfl) (Nat.le_refl _) (fun r31 hr31 pr31 => ?_)
      refine zr_istore (pc := 34) hV [some (ZR 0), some (ZI one), some (ZI other), some (ZI (zq_or r20 r25)), some (ZI r31), none, none] dX12_like_34 (by decide) rfl rfl ?_
      refine zr_aload_n (pc := 36) hV dX12_like_36 rfl rfl ?_
      refine zr_iconst (pc := 37) hV 0 dX12_like_37 rfl ?_
      refine zr_putI (pc := 38) hV 22 dX12_like_38 fX12_293 rfl rfl rfl rfl (by decide) (fun σ38 eσ38 => ?_)
      have hσ38 : zx_T σ38 := zx_u22 eσ38 hσ (by omega)
      have hFσ38 : ∀ a i : Int, (¬ (a = 0 ∧ i = 22) ∧ a ≠ 11 ∧ a ≠ 12 ∧ a ≠ 13) → σ38 a i = σ a i := fun a i h => by rw [eσ38, zq_up_ne h.1]
      have Oσ38 : zx_O σ38 := zx_O_fr (fun i => by rw [eσ38]; exact zq_up_ne (by omega)) (fun i => by rw [eσ38]; exact zq_up_ne (by omega)) (fun i => by rw [eσ38]; exact zq_up_ne (by omega)) (by rw [eσ38]; exact zq_up_ne (by omega)) (by rw [eσ38]; exact zq_up_ne (by omega)) Oσ
      have L41 : ∀ (fuel : Nat) (σ_41 : zq_S), (zx_T σ_41) → (∀ a i : Int, (¬ (a = 0 ∧ i = 22) ∧ a ≠ 11 ∧ a ≠ 12 ∧ a ≠ 13) → σ_41 a i = σ a i) → (zx_O σ_41) → 4 - σ_41 0 22 < (fuel : Int) → V 41 [some (ZR 0), some (ZI one), some (ZI other), some (ZI (zq_or r20 r25)), some (ZI r31), none, none] [] 41 σ_41 := by
        intro fuel
        induction fuel with
        | zero =>
          intro σ_41 hσ_41 hFσ_41 Oσ_41 hm41
          have t6 := zx_g22 hσ_41
          exfalso; omega
        | succ fuel ih =>
          intro σ_41 hσ_41 hFσ_41 Oσ_41 hm41
          have ih41 := ih
          show V 41 [some (ZR 0), some (ZI one), some (ZI other), some (ZI (zq_or r20 r25)), some (ZI r31), none, none] [] 41 σ_41
          refine zr_aload_n (pc := 41) hV dX12_like_41 rfl rfl ?_
          refine zr_getI (pc := 42) hV 22 dX12_like_42 fX12_293 rfl rfl rfl (by decide) ?_
          have t7 := zx_g22 hσ_41
          refine zr_iload_n (pc := 45) hV dX12_like_45 rfl rfl ?_
          refine zr_bipush (pc := 46) hV 64 dX12_like_46 (by decide) ?_
          refine zr_iand (pc := 48) hV dX12_like_48 ?_
          have t8 := zq_and_nnR (x := zq_or r20 r25) (y := 64) (by omega)
          refine zr_if_eq (pc := 49) hV 56 dX12_like_49 (by decide) (by omega) (fun c9 => ?_) (fun c9 => ?_)
          · show V 56 [some (ZR 0), some (ZI one), some (ZI other), some (ZI (zq_or r20 r25)), some (ZI r31), none, none] [ZI (σ_41 0 22)] 41 σ_41
            refine zr_iconst (pc := 56) hV 1 dX12_like_56 rfl ?_
            show V 57 [some (ZR 0), some (ZI one), some (ZI other), some (ZI (zq_or r20 r25)), some (ZI r31), none, none] [ZI 1, ZI (σ_41 0 22)] 41 σ_41
            refine zr_icmp_ge (pc := 57) hV 165 dX12_like_57 (by decide) (by omega) ⟨by decide, by decide⟩ (fun c10 => ?_) (fun c10 => ?_)
            · show V 165 [some (ZR 0), some (ZI one), some (ZI other), some (ZI (zq_or r20 r25)), some (ZI r31), none, none] [] 41 σ_41
              refine zr_iconst (pc := 165) hV 1 dX12_like_165 rfl ?_
              exact zr_iret (pc := 166) hV dX12_like_166 rfl rfl ⟨_, rfl, ⟨by decide, by decide⟩, hσ_41, hFσ_41, trivial, Oσ_41⟩
            · show V 60 [some (ZR 0), some (ZI one), some (ZI other), some (ZI (zq_or r20 r25)), some (ZI r31), none, none] [] 41 σ_41
              refine zr_iconst (pc := 60) hV 0 dX12_like_60 rfl ?_
              refine zr_istore (pc := 61) hV [some (ZR 0), some (ZI one), some (ZI other), some (ZI (zq_or r20 r25)), some (ZI r31), some (ZI 0), none] dX12_like_61 (by decide) rfl rfl ?_
              have t11 := zx_g22 hσ_41
              have L63 : ∀ (fuel : Nat) (x5_63 : Int) (σ_63 : zq_S), (0 ≤ x5_63 ∧ x5_63 ≤ 2147483647) → (zx_T σ_63) → (∀ a i : Int, (¬ (a = 0 ∧ i = 22) ∧ a ≠ 11 ∧ a ≠ 12 ∧ a ≠ 13) → σ_63 a i = σ a i) → (zx_O σ_63) → (σ_63 0 22 = σ_41 0 22) → 2147483647 - x5_63 < (fuel : Int) → V 63 [some (ZR 0), some (ZI one), some (ZI other), some (ZI (zq_or r20 r25)), some (ZI r31), some (ZI x5_63), none] [] 41 σ_63 := by
                intro fuel
                induction fuel with
                | zero =>
                  intro x5_63 σ_63 hx5_63 hσ_63 hFσ_63 Oσ_63 hi63_0 hm63
                  exfalso; omega
                | succ fuel ih =>
                  intro x5_63 σ_63 hx5_63 hσ_63 hFσ_63 Oσ_63 hi63_0 hm63
                  have ih63 := ih
                  show V 63 [some (ZR 0), some (ZI one), some (ZI other), some (ZI (zq_or r20 r25)), some (ZI r31), some (ZI x5_63), none] [] 41 σ_63
                  refine zr_iload (pc := 63) hV dX12_like_63 rfl ?_
                  refine zr_iload (pc := 65) hV dX12_like_65 rfl ?_
                  refine zr_icmp_ge (pc := 67) hV 152 dX12_like_67 (by decide) (by omega) (by omega) (fun c12 => ?_) (fun c12 => ?_)
                  · show V 152 [some (ZR 0), some (ZI one), some (ZI other), some (ZI (zq_or r20 r25)), some (ZI r31), some (ZI x5_63), none] [] 41 σ_63
                    refine zr_aload_n (pc := 152) hV dX12_like_152 rfl rfl ?_
                    refine zr_dup (pc := 153) hV dX12_like_153 (fun _ => rfl) ?_
                    refine zr_getI (pc := 154) hV 22 dX12_like_154 fX12_293 rfl rfl rfl (by decide) ?_
                    have t13 := zx_g22 hσ_63
                    refine zr_iconst (pc := 157) hV 1 dX12_like_157 rfl ?_
                    refine zr_iadd (pc := 158) hV dX12_like_158 ?_
                    refine zr_putI (pc := 159) hV 22 dX12_like_159 fX12_293 rfl rfl rfl rfl (by decide) (fun σ159 eσ159 => ?_)
                    have hσ159 : zx_T σ159 := zx_u22 eσ159 hσ_63 (by omega)
                    have hFσ159 : ∀ a i : Int, (¬ (a = 0 ∧ i = 22) ∧ a ≠ 11 ∧ a ≠ 12 ∧ a ≠ 13) → σ159 a i = σ a i := fun a i h => by rw [eσ159, zq_up_ne h.1]; exact hFσ_63 a i h
                    have Oσ159 : zx_O σ159 := zx_O_fr (fun i => by rw [eσ159]; exact zq_up_ne (by omega)) (fun i => by rw [eσ159]; exact zq_up_ne (by omega)) (fun i => by rw [eσ159]; exact zq_up_ne (by omega)) (by rw [eσ159]; exact zq_up_ne (by omega)) (by rw [eσ159]; exact zq_up_ne (by omega)) Oσ_63
                    refine zr_goto (pc := 162) hV 41 dX12_like_162 (by decide) ?_
                    have t14 := zx_g22 hσ159
                    have t15 : σ159 0 22 = (σ_63 0 22) + 1 := by rw [eσ159]; exact zq_up_same _ _ _ _
                    refine zr_sub (pc := 41) hV [some (ZR 0), some (ZI one), some (ZI other), some (ZI (zq_or r20 r25)), some (ZI r31), none, none] (⟨rfl, rfl, rfl, rfl, rfl, trivial⟩) ?_
                    exact ih41 σ159 hσ159 hFσ159 Oσ159 (by omega)
                  · show V 70 [some (ZR 0), some (ZI one), some (ZI other), some (ZI (zq_or r20 r25)), some (ZI r31), some (ZI x5_63), none] [] 41 σ_63
                    refine zr_aload_n (pc := 70) hV dX12_like_70 rfl rfl ?_
                    refine zr_iload (pc := 71) hV dX12_like_71 rfl ?_
                    refine zr_iload_n (pc := 73) hV dX12_like_73 rfl rfl ?_
                    refine zr_callVv (pc := 74) hV [ZI x5_63, ZI (zq_or r20 r25)] (st := []) (c_X12_setNarrow (σ := σ_63) hσ_63 x5_63 (zq_or r20 r25) (by omega) (by omega) (by omega)) dX12_like_74 mX12_316 rfl (by decide) (by decide) (Nat.le_of_ble_eq_true rfl) (Nat.le_refl _) (fun σ74 pσ74 => ?_)
                    obtain ⟨hσ74, hfσ74, pσ74⟩ := pσ74
                    have Oσ74 : zx_O σ74 := zx_O_fr (fun i => hfσ74 2 i (by omega)) (fun i => hfσ74 5 i (by omega)) (fun i => hfσ74 6 i (by omega)) (hfσ74 0 2 (by omega)) (hfσ74 0 3 (by omega)) Oσ_63
                    have hFσ74 : ∀ a i : Int, (¬ (a = 0 ∧ i = 22) ∧ a ≠ 11 ∧ a ≠ 12 ∧ a ≠ 13) → σ74 a i = σ a i := fun a i h => (hfσ74 a i h.2.2.2).trans (hFσ_63 a i h)
                    refine zr_aload_n (pc := 77) hV dX12_like_77 rfl rfl ?_
                    refine zr_aload_n (pc := 78) hV dX12_like_78 rfl rfl ?_
                    refine zr_getR (pc := 79) hV 19 11 dX12_like_79 fX12_50 rfl rfl rfl (by decide) (zx_g19 hσ74) (by omega) ?_
                    refine zr_callVv (pc := 82) hV [ZR 11] (st := []) (c_X12_copyAhead (σ := σ74) hσ74 11 (by omega)) dX12_like_82 mX12_320 rfl (by decide) (by decide) (Nat.le_of_ble_eq_true rfl) (Nat.le_refl _) (fun σ82 pσ82 => ?_)
                    obtain ⟨hσ82, hfσ82, pσ82⟩ := pσ82
                    have Oσ82 : zx_O σ82 := zx_O_fr (fun i => hfσ82 2 i (by omega)) (fun i => hfσ82 5 i (by omega)) (fun i => hfσ82 6 i (by omega)) (hfσ82 0 2 (by omega)) (hfσ82 0 3 (by omega)) Oσ74
                    have hFσ82 : ∀ a i : Int, (¬ (a = 0 ∧ i = 22) ∧ a ≠ 11 ∧ a ≠ 12 ∧ a ≠ 13) → σ82 a i = σ a i := fun a i h => (hfσ82 a i ⟨h.2.1, h.2.2.1⟩).trans (hFσ74 a i h)
                    refine zr_aload_n (pc := 85) hV dX12_like_85 rfl rfl ?_
                    refine zr_aload_n (pc := 86) hV dX12_like_86 rfl rfl ?_
                    refine zr_getR (pc := 87) hV 20 12 dX12_like_87 fX12_53 rfl rfl rfl (by decide) (zx_g20 hσ82) (by omega) ?_
                    refine zr_callVv (pc := 90) hV [ZR 12] (st := []) (c_X12_copyAhead (σ := σ82) hσ82 12 (by omega)) dX12_like_90 mX12_320 rfl (by decide) (by decide) (Nat.le_of_ble_eq_true rfl) (Nat.le_refl _) (fun σ90 pσ90 => ?_)
                    obtain ⟨hσ90, hfσ90, pσ90⟩ := pσ90
                    have Oσ90 : zx_O σ90 := zx_O_fr (fun i => hfσ90 2 i (by omega)) (fun i => hfσ90 5 i (by omega)) (fun i => hfσ90 6 i (by omega)) (hfσ90 0 2 (by omega)) (hfσ90 0 3 (by omega)) Oσ82
                    have hFσ90 : ∀ a i : Int, (¬ (a = 0 ∧ i = 22) ∧ a ≠ 11 ∧ a ≠ 12 ∧ a ≠ 13) → σ90 a i = σ a i := fun a i h => (hfσ90 a i ⟨h.2.1, h.2.2.1⟩).trans (hFσ82 a i h)
                    refine zr_aload_n (pc := 93) hV dX12_like_93 rfl rfl ?_
                    refine zr_iload_n (pc := 94) hV dX12_like_94 rfl rfl ?_
                    refine zr_aload_n (pc := 95) hV dX12_like_95 rfl rfl ?_
                    refine zr_getR (pc := 96) hV 19 11 dX12_like_96 fX12_50 rfl rfl rfl (by decide) (zx_g19 hσ90) (by omega) ?_
                    have t16 := zx_g22 hσ90
                    have t17 : σ90 0 22 = σ82 0 22 := hfσ90 _ _ (by omega)
                    have t18 : σ82 0 22 = σ74 0 22 := hfσ82 _ _ (by omega)
                    have t19 : σ74 0 22 = σ_63 0 22 := hfσ74 _ _ (by omega)
                    refine zr_callVv (pc := 99) hV [ZI one, ZR 11] (st := []) (c_X12_doNarrow (σ := σ90) hσ90 one 11 (by omega) (by omega) (by omega) (zx_A_fr (fun i => hFσ90 5 i (by omega)) (fun i => hFσ90 6 i (by omega)) (Oσ one (by omega) (by omega)).1)) dX12_like_99 mX12_324 rfl (by decide) (by decide) (Nat.le_of_ble_eq_true rfl) (Nat.le_refl _) (fun σ99 pσ99 => ?_)
                    obtain ⟨hσ99, hfσ99, pσ99⟩ := pσ99
                    have Oσ99 : zx_O σ99 := zx_O_fr (fun i => hfσ99 2 i (by omega)) (fun i => hfσ99 5 i (by omega)) (fun i => hfσ99 6 i (by omega)) (hfσ99 0 2 (by omega)) (hfσ99 0 3 (by omega)) Oσ90
                    have hFσ99 : ∀ a i : Int, (¬ (a = 0 ∧ i = 22) ∧ a ≠ 11 ∧ a ≠ 12 ∧ a ≠ 13) → σ99 a i = σ a i := fun a i h => (hfσ99 a i ⟨h.2.1, h.2.2.1⟩).trans (hFσ90 a i h)
                    refine zr_aload_n (pc := 102) hV dX12_like_102 rfl rfl ?_
                    refine zr_iload_n (pc := 103) hV dX12_like_103 rfl rfl ?_
                    refine zr_aload_n (pc := 104) hV dX12_like_104 rfl rfl ?_
                    refine zr_getR (pc := 105) hV 20 12 dX12_like_105 fX12_53 rfl rfl rfl (by decide) (zx_g20 hσ99) (by omega) ?_
                    have t20 := zx_g22 hσ99
                    have t21 : σ99 0 22 = σ90 0 22 := hfσ99 _ _ (by omega)
                    have t22 : σ90 0 22 = σ82 0 22 := hfσ90 _ _ (by omega)
                    have t23 : σ82 0 22 = σ74 0 22 := hfσ82 _ _ (by omega)
                    have t24 : σ74 0 22 = σ_63 0 22 := hfσ74 _ _ (by omega)
                    refine zr_callVv (pc := 108) hV [ZI other, ZR 12] (st := []) (c_X12_doNarrow (σ := σ99) hσ99 other 12 (by omega) (by omega) (by omega) (zx_A_fr (fun i => hFσ99 5 i (by omega)) (fun i => hFσ99 6 i (by omega)) (Oσ other (by omega) (by omega)).1)) dX12_like_108 mX12_324 rfl (by decide) (by decide) (Nat.le_of_ble_eq_true rfl) (Nat.le_refl _) (fun σ108 pσ108 => ?_)
                    obtain ⟨hσ108, hfσ108, pσ108⟩ := pσ108
                    have Oσ108 : zx_O σ108 := zx_O_fr (fun i => hfσ108 2 i (by omega)) (fun i => hfσ108 5 i (by omega)) (fun i => hfσ108 6 i (by omega)) (hfσ108 0 2 (by omega)) (hfσ108 0 3 (by omega)) Oσ99
                    have hFσ108 : ∀ a i : Int, (¬ (a = 0 ∧ i = 22) ∧ a ≠ 11 ∧ a ≠ 12 ∧ a ≠ 13) → σ108 a i = σ a i := fun a i h => (hfσ108 a i ⟨h.2.1, h.2.2.1⟩).trans (hFσ99 a i h)
                    refine zr_iconst (pc := 111) hV 0 dX12_like_111 rfl ?_
                    refine zr_istore (pc := 112) hV [some (ZR 0), some (ZI one), some (ZI other), some (ZI (zq_or r20 r25)), some (ZI r31), some (ZI x5_63), some (ZI 0)] dX12_like_112 (by decide) rfl rfl ?_
                    have L114 : ∀ (fuel : Nat) (x6_114 : Int), (0 ≤ x6_114 ∧ x6_114 ≤ 9) → 9 - x6_114 < (fuel : Int) → V 114 [some (ZR 0), some (ZI one), some (ZI other), some (ZI (zq_or r20 r25)), some (ZI r31), some (ZI x5_63), some (ZI x6_114)] [] 41 σ108 := by
                      intro fuel
                      induction fuel with
                      | zero =>
                        intro x6_114 hx6_114 hm114
                        exfalso; omega
                      | succ fuel ih =>
                        intro x6_114 hx6_114 hm114
                        have ih114 := ih
                        show V 114 [some (ZR 0), some (ZI one), some (ZI other), some (ZI (zq_or r20 r25)), some (ZI r31), some (ZI x5_63), some (ZI x6_114)] [] 41 σ108
                        refine zr_iload (pc := 114) hV dX12_like_114 rfl ?_
                        refine zr_bipush (pc := 116) hV 9 dX12_like_116 (by decide) ?_
                        refine zr_icmp_ge (pc := 118) hV 146 dX12_like_118 (by decide) (by omega) ⟨by decide, by decide⟩ (fun c25 => ?_) (fun c25 => ?_)
                        · show V 146 [some (ZR 0), some (ZI one), some (ZI other), some (ZI (zq_or r20 r25)), some (ZI r31), some (ZI x5_63), some (ZI x6_114)] [] 41 σ108
                          refine zr_iinc (pc := 146) hV [some (ZR 0), some (ZI one), some (ZI other), some (ZI (zq_or r20 r25)), some (ZI r31), some (ZI (x5_63 + 1)), some (ZI x6_114)] (x5_63 + 1) dX12_like_146 rfl rfl (by decide) rfl rfl ?_
                          refine zr_goto (pc := 149) hV 63 dX12_like_149 (by decide) ?_
                          have t26 := zx_g22 hσ108
                          have t27 : σ108 0 22 = σ99 0 22 := hfσ108 _ _ (by omega)
                          have t28 : σ99 0 22 = σ90 0 22 := hfσ99 _ _ (by omega)
                          have t29 : σ90 0 22 = σ82 0 22 := hfσ90 _ _ (by omega)
                          have t30 : σ82 0 22 = σ74 0 22 := hfσ82 _ _ (by omega)
                          have t31 : σ74 0 22 = σ_63 0 22 := hfσ74 _ _ (by omega)
                          refine zr_sub (pc := 63) hV [some (ZR 0), some (ZI one), some (ZI other), some (ZI (zq_or r20 r25)), some (ZI r31), some (ZI (x5_63 + 1)), none] (⟨rfl, rfl, rfl, rfl, rfl, rfl, trivial⟩) ?_
                          exact ih63 (x5_63 + 1) σ108 (by omega) hσ108 hFσ108 Oσ108 (by omega) (by omega)
                        · show V 121 [some (ZR 0), some (ZI one), some (ZI other), some (ZI (zq_or r20 r25)), some (ZI r31), some (ZI x5_63), some (ZI x6_114)] [] 41 σ108
                          refine zr_aload_n (pc := 121) hV dX12_like_121 rfl rfl ?_
                          refine zr_getR (pc := 122) hV 19 11 dX12_like_122 fX12_50 rfl rfl rfl (by decide) (zx_g19 hσ108) (by omega) ?_
                          refine zr_iload (pc := 125) hV dX12_like_125 rfl ?_
                          refine zr_iald (pc := 127) hV dX12_like_127 rfl (by decide) rfl (by omega) ?_
                          have t32 := zx_ga11 hσ108 x6_114
                          refine zr_aload_n (pc := 128) hV dX12_like_128 rfl rfl ?_
                          refine zr_getR (pc := 129) hV 20 12 dX12_like_129 fX12_53 rfl rfl rfl (by decide) (zx_g20 hσ108) (by omega) ?_
                          refine zr_iload (pc := 132) hV dX12_like_132 rfl ?_
                          refine zr_iald (pc := 134) hV dX12_like_134 rfl (by decide) rfl (by omega) ?_
                          have t33 := zx_ga12 hσ108 x6_114
                          refine zr_icmp_eq (pc := 135) hV 140 dX12_like_135 (by decide) (by omega) (by omega) (fun c34 => ?_) (fun c34 => ?_)
                          · show V 140 [some (ZR 0), some (ZI one), some (ZI other), some (ZI (zq_or r20 r25)), some (ZI r31), some (ZI x5_63), some (ZI x6_114)] [] 41 σ108
                            refine zr_iinc (pc := 140) hV [some (ZR 0), some (ZI one), some (ZI other), some (ZI (zq_or r20 r25)), some (ZI r31), some (ZI x5_63), some (ZI (x6_114 + 1))] (x6_114 + 1) dX12_like_140 rfl rfl (by decide) rfl rfl ?_
                            refine zr_goto (pc := 143) hV 114 dX12_like_143 (by decide) ?_
                            exact ih114 (x6_114 + 1) (by omega) (by omega)
                          · show V 138 [some (ZR 0), some (ZI one), some (ZI other), some (ZI (zq_or r20 r25)), some (ZI r31), some (ZI x5_63), some (ZI x6_114)] [] 41 σ108
                            refine zr_iconst (pc := 138) hV 0 dX12_like_138 rfl ?_
                            exact zr_iret (pc := 139) hV dX12_like_139 rfl rfl ⟨_, rfl, ⟨by decide, by decide⟩, hσ108, hFσ108, trivial, Oσ108⟩
                    exact L114 (9 - (0 : Int) + 1 : Int).toNat 0 (by omega) (by omega)
              have t35 := zx_g22 hσ_41
              exact L63 (2147483647 - (0 : Int) + 1 : Int).toNat 0 σ_41 (by omega) hσ_41 hFσ_41 Oσ_41 (by omega) (by omega)
          · show V 52 [some (ZR 0), some (ZI one), some (ZI other), some (ZI (zq_or r20 r25)), some (ZI r31), none, none] [ZI (σ_41 0 22)] 41 σ_41
            refine zr_iconst (pc := 52) hV 4 dX12_like_52 rfl ?_
            refine zr_goto (pc := 53) hV 57 dX12_like_53 (by decide) ?_
            show V 57 [some (ZR 0), some (ZI one), some (ZI other), some (ZI (zq_or r20 r25)), some (ZI r31), none, none] [ZI 4, ZI (σ_41 0 22)] 41 σ_41
            refine zr_icmp_ge (pc := 57) hV 165 dX12_like_57 (by decide) (by omega) ⟨by decide, by decide⟩ (fun c36 => ?_) (fun c36 => ?_)
            · show V 165 [some (ZR 0), some (ZI one), some (ZI other), some (ZI (zq_or r20 r25)), some (ZI r31), none, none] [] 41 σ_41
              refine zr_iconst (pc := 165) hV 1 dX12_like_165 rfl ?_
              exact zr_iret (pc := 166) hV dX12_like_166 rfl rfl ⟨_, rfl, ⟨by decide, by decide⟩, hσ_41, hFσ_41, trivial, Oσ_41⟩
            · show V 60 [some (ZR 0), some (ZI one), some (ZI other), some (ZI (zq_or r20 r25)), some (ZI r31), none, none] [] 41 σ_41
              refine zr_iconst (pc := 60) hV 0 dX12_like_60 rfl ?_
              refine zr_istore (pc := 61) hV [some (ZR 0), some (ZI one), some (ZI other), some (ZI (zq_or r20 r25)), some (ZI r31), some (ZI 0), none] dX12_like_61 (by decide) rfl rfl ?_
              have t37 := zx_g22 hσ_41
              have L63 : ∀ (fuel : Nat) (x5_63 : Int) (σ_63 : zq_S), (0 ≤ x5_63 ∧ x5_63 ≤ 2147483647) → (zx_T σ_63) → (∀ a i : Int, (¬ (a = 0 ∧ i = 22) ∧ a ≠ 11 ∧ a ≠ 12 ∧ a ≠ 13) → σ_63 a i = σ a i) → (zx_O σ_63) → (σ_63 0 22 = σ_41 0 22) → 2147483647 - x5_63 < (fuel : Int) → V 63 [some (ZR 0), some (ZI one), some (ZI other), some (ZI (zq_or r20 r25)), some (ZI r31), some (ZI x5_63), none] [] 41 σ_63 := by
                intro fuel
                induction fuel with
                | zero =>
                  intro x5_63 σ_63 hx5_63 hσ_63 hFσ_63 Oσ_63 hi63_0 hm63
                  exfalso; omega
                | succ fuel ih =>
                  intro x5_63 σ_63 hx5_63 hσ_63 hFσ_63 Oσ_63 hi63_0 hm63
                  have ih63 := ih
                  show V 63 [some (ZR 0), some (ZI one), some (ZI other), some (ZI (zq_or r20 r25)), some (ZI r31), some (ZI x5_63), none] [] 41 σ_63
                  refine zr_iload (pc := 63) hV dX12_like_63 rfl ?_
                  refine zr_iload (pc := 65) hV dX12_like_65 rfl ?_
                  refine zr_icmp_ge (pc := 67) hV 152 dX12_like_67 (by decide) (by omega) (by omega) (fun c38 => ?_) (fun c38 => ?_)
                  · show V 152 [some (ZR 0), some (ZI one), some (ZI other), some (ZI (zq_or r20 r25)), some (ZI r31), some (ZI x5_63), none] [] 41 σ_63
                    refine zr_aload_n (pc := 152) hV dX12_like_152 rfl rfl ?_
                    refine zr_dup (pc := 153) hV dX12_like_153 (fun _ => rfl) ?_
                    refine zr_getI (pc := 154) hV 22 dX12_like_154 fX12_293 rfl rfl rfl (by decide) ?_
                    have t39 := zx_g22 hσ_63
                    refine zr_iconst (pc := 157) hV 1 dX12_like_157 rfl ?_
                    refine zr_iadd (pc := 158) hV dX12_like_158 ?_
                    refine zr_putI (pc := 159) hV 22 dX12_like_159 fX12_293 rfl rfl rfl rfl (by decide) (fun σ159 eσ159 => ?_)
                    have hσ159 : zx_T σ159 := zx_u22 eσ159 hσ_63 (by omega)
                    have hFσ159 : ∀ a i : Int, (¬ (a = 0 ∧ i = 22) ∧ a ≠ 11 ∧ a ≠ 12 ∧ a ≠ 13) → σ159 a i = σ a i := fun a i h => by rw [eσ159, zq_up_ne h.1]; exact hFσ_63 a i h
                    have Oσ159 : zx_O σ159 := zx_O_fr (fun i => by rw [eσ159]; exact zq_up_ne (by omega)) (fun i => by rw [eσ159]; exact zq_up_ne (by omega)) (fun i => by rw [eσ159]; exact zq_up_ne (by omega)) (by rw [eσ159]; exact zq_up_ne (by omega)) (by rw [eσ159]; exact zq_up_ne (by omega)) Oσ_63
                    refine zr_goto (pc := 162) hV 41 dX12_like_162 (by decide) ?_
                    have t40 := zx_g22 hσ159
                    have t41 : σ159 0 22 = (σ_63 0 22) + 1 := by rw [eσ159]; exact zq_up_same _ _ _ _
                    refine zr_sub (pc := 41) hV [some (ZR 0), some (ZI one), some (ZI other), some (ZI (zq_or r20 r25)), some (ZI r31), none, none] (⟨rfl, rfl, rfl, rfl, rfl, trivial⟩) ?_
                    exact ih41 σ159 hσ159 hFσ159 Oσ159 (by omega)
                  · show V 70 [some (ZR 0), some (ZI one), some (ZI other), some (ZI (zq_or r20 r25)), some (ZI r31), some (ZI x5_63), none] [] 41 σ_63
                    refine zr_aload_n (pc := 70) hV dX12_like_70 rfl rfl ?_
                    refine zr_iload (pc := 71) hV dX12_like_71 rfl ?_
                    refine zr_iload_n (pc := 73) hV dX12_like_73 rfl rfl ?_
                    refine zr_callVv (pc := 74) hV [ZI x5_63, ZI (zq_or r20 r25)] (st := []) (c_X12_setNarrow (σ := σ_63) hσ_63 x5_63 (zq_or r20 r25) (by omega) (by omega) (by omega)) dX12_like_74 mX12_316 rfl (by decide) (by decide) (Nat.le_of_ble_eq_true rfl) (Nat.le_refl _) (fun σ74 pσ74 => ?_)
                    obtain ⟨hσ74, hfσ74, pσ74⟩ := pσ74
                    have Oσ74 : zx_O σ74 := zx_O_fr (fun i => hfσ74 2 i (by omega)) (fun i => hfσ74 5 i (by omega)) (fun i => hfσ74 6 i (by omega)) (hfσ74 0 2 (by omega)) (hfσ74 0 3 (by omega)) Oσ_63
                    have hFσ74 : ∀ a i : Int, (¬ (a = 0 ∧ i = 22) ∧ a ≠ 11 ∧ a ≠ 12 ∧ a ≠ 13) → σ74 a i = σ a i := fun a i h => (hfσ74 a i h.2.2.2).trans (hFσ_63 a i h)
                    refine zr_aload_n (pc := 77) hV dX12_like_77 rfl rfl ?_
                    refine zr_aload_n (pc := 78) hV dX12_like_78 rfl rfl ?_
                    refine zr_getR (pc := 79) hV 19 11 dX12_like_79 fX12_50 rfl rfl rfl (by decide) (zx_g19 hσ74) (by omega) ?_
                    refine zr_callVv (pc := 82) hV [ZR 11] (st := []) (c_X12_copyAhead (σ := σ74) hσ74 11 (by omega)) dX12_like_82 mX12_320 rfl (by decide) (by decide) (Nat.le_of_ble_eq_true rfl) (Nat.le_refl _) (fun σ82 pσ82 => ?_)
                    obtain ⟨hσ82, hfσ82, pσ82⟩ := pσ82
                    have Oσ82 : zx_O σ82 := zx_O_fr (fun i => hfσ82 2 i (by omega)) (fun i => hfσ82 5 i (by omega)) (fun i => hfσ82 6 i (by omega)) (hfσ82 0 2 (by omega)) (hfσ82 0 3 (by omega)) Oσ74
                    have hFσ82 : ∀ a i : Int, (¬ (a = 0 ∧ i = 22) ∧ a ≠ 11 ∧ a ≠ 12 ∧ a ≠ 13) → σ82 a i = σ a i := fun a i h => (hfσ82 a i ⟨h.2.1, h.2.2.1⟩).trans (hFσ74 a i h)
                    refine zr_aload_n (pc := 85) hV dX12_like_85 rfl rfl ?_
                    refine zr_aload_n (pc := 86) hV dX12_like_86 rfl rfl ?_
                    refine zr_getR (pc := 87) hV 20 12 dX12_like_87 fX12_53 rfl rfl rfl (by decide) (zx_g20 hσ82) (by omega) ?_
                    refine zr_callVv (pc := 90) hV [ZR 12] (st := []) (c_X12_copyAhead (σ := σ82) hσ82 12 (by omega)) dX12_like_90 mX12_320 rfl (by decide) (by decide) (Nat.le_of_ble_eq_true rfl) (Nat.le_refl _) (fun σ90 pσ90 => ?_)
                    obtain ⟨hσ90, hfσ90, pσ90⟩ := pσ90
                    have Oσ90 : zx_O σ90 := zx_O_fr (fun i => hfσ90 2 i (by omega)) (fun i => hfσ90 5 i (by omega)) (fun i => hfσ90 6 i (by omega)) (hfσ90 0 2 (by omega)) (hfσ90 0 3 (by omega)) Oσ82
                    have hFσ90 : ∀ a i : Int, (¬ (a = 0 ∧ i = 22) ∧ a ≠ 11 ∧ a ≠ 12 ∧ a ≠ 13) → σ90 a i = σ a i := fun a i h => (hfσ90 a i ⟨h.2.1, h.2.2.1⟩).trans (hFσ82 a i h)
                    refine zr_aload_n (pc := 93) hV dX12_like_93 rfl rfl ?_
                    refine zr_iload_n (pc := 94) hV dX12_like_94 rfl rfl ?_
                    refine zr_aload_n (pc := 95) hV dX12_like_95 rfl rfl ?_
                    refine zr_getR (pc := 96) hV 19 11 dX12_like_96 fX12_50 rfl rfl rfl (by decide) (zx_g19 hσ90) (by omega) ?_
                    have t42 := zx_g22 hσ90
                    have t43 : σ90 0 22 = σ82 0 22 := hfσ90 _ _ (by omega)
                    have t44 : σ82 0 22 = σ74 0 22 := hfσ82 _ _ (by omega)
                    have t45 : σ74 0 22 = σ_63 0 22 := hfσ74 _ _ (by omega)
                    refine zr_callVv (pc := 99) hV [ZI one, ZR 11] (st := []) (c_X12_doNarrow (σ := σ90) hσ90 one 11 (by omega) (by omega) (by omega) (zx_A_fr (fun i => hFσ90 5 i (by omega)) (fun i => hFσ90 6 i (by omega)) (Oσ one (by omega) (by omega)).1)) dX12_like_99 mX12_324 rfl (by decide) (by decide) (Nat.le_of_ble_eq_true rfl) (Nat.le_refl _) (fun σ99 pσ99 => ?_)
                    obtain ⟨hσ99, hfσ99, pσ99⟩ := pσ99
                    have Oσ99 : zx_O σ99 := zx_O_fr (fun i => hfσ99 2 i (by omega)) (fun i => hfσ99 5 i (by omega)) (fun i => hfσ99 6 i (by omega)) (hfσ99 0 2 (by omega)) (hfσ99 0 3 (by omega)) Oσ90
                    have hFσ99 : ∀ a i : Int, (¬ (a = 0 ∧ i = 22) ∧ a ≠ 11 ∧ a ≠ 12 ∧ a ≠ 13) → σ99 a i = σ a i := fun a i h => (hfσ99 a i ⟨h.2.1, h.2.2.1⟩).trans (hFσ90 a i h)
                    refine zr_aload_n (pc := 102) hV dX12_like_102 rfl rfl ?_
                    refine zr_iload_n (pc := 103) hV dX12_like_103 rfl rfl ?_
                    refine zr_aload_n (pc := 104) hV dX12_like_104 rfl rfl ?_
                    refine zr_getR (pc := 105) hV 20 12 dX12_like_105 fX12_53 rfl rfl rfl (by decide) (zx_g20 hσ99) (by omega) ?_
                    have t46 := zx_g22 hσ99
                    have t47 : σ99 0 22 = σ90 0 22 := hfσ99 _ _ (by omega)
                    have t48 : σ90 0 22 = σ82 0 22 := hfσ90 _ _ (by omega)
                    have t49 : σ82 0 22 = σ74 0 22 := hfσ82 _ _ (by omega)
                    have t50 : σ74 0 22 = σ_63 0 22 := hfσ74 _ _ (by omega)
                    refine zr_callVv (pc := 108) hV [ZI other, ZR 12] (st := []) (c_X12_doNarrow (σ := σ99) hσ99 other 12 (by omega) (by omega) (by omega) (zx_A_fr (fun i => hFσ99 5 i (by omega)) (fun i => hFσ99 6 i (by omega)) (Oσ other (by omega) (by omega)).1)) dX12_like_108 mX12_324 rfl (by decide) (by decide) (Nat.le_of_ble_eq_true rfl) (Nat.le_refl _) (fun σ108 pσ108 => ?_)
                    obtain ⟨hσ108, hfσ108, pσ108⟩ := pσ108
                    have Oσ108 : zx_O σ108 := zx_O_fr (fun i => hfσ108 2 i (by omega)) (fun i => hfσ108 5 i (by omega)) (fun i => hfσ108 6 i (by omega)) (hfσ108 0 2 (by omega)) (hfσ108 0 3 (by omega)) Oσ99
                    have hFσ108 : ∀ a i : Int, (¬ (a = 0 ∧ i = 22) ∧ a ≠ 11 ∧ a ≠ 12 ∧ a ≠ 13) → σ108 a i = σ a i := fun a i h => (hfσ108 a i ⟨h.2.1, h.2.2.1⟩).trans (hFσ99 a i h)
                    refine zr_iconst (pc := 111) hV 0 dX12_like_111 rfl ?_
                    refine zr_istore (pc := 112) hV [some (ZR 0), some (ZI one), some (ZI other), some (ZI (zq_or r20 r25)), some (ZI r31), some (ZI x5_63), some (ZI 0)] dX12_like_112 (by decide) rfl rfl ?_
                    have L114 : ∀ (fuel : Nat) (x6_114 : Int), (0 ≤ x6_114 ∧ x6_114 ≤ 9) → 9 - x6_114 < (fuel : Int) → V 114 [some (ZR 0), some (ZI one), some (ZI other), some (ZI (zq_or r20 r25)), some (ZI r31), some (ZI x5_63), some (ZI x6_114)] [] 41 σ108 := by
                      intro fuel
                      induction fuel with
                      | zero =>
                        intro x6_114 hx6_114 hm114
                        exfalso; omega
                      | succ fuel ih =>
                        intro x6_114 hx6_114 hm114
                        have ih114 := ih
                        show V 114 [some (ZR 0), some (ZI one), some (ZI other), some (ZI (zq_or r20 r25)), some (ZI r31), some (ZI x5_63), some (ZI x6_114)] [] 41 σ108
                        refine zr_iload (pc := 114) hV dX12_like_114 rfl ?_
                        refine zr_bipush (pc := 116) hV 9 dX12_like_116 (by decide) ?_
                        refine zr_icmp_ge (pc := 118) hV 146 dX12_like_118 (by decide) (by omega) ⟨by decide, by decide⟩ (fun c51 => ?_) (fun c51 => ?_)
                        · show V 146 [some (ZR 0), some (ZI one), some (ZI other), some (ZI (zq_or r20 r25)), some (ZI r31), some (ZI x5_63), some (ZI x6_114)] [] 41 σ108
                          refine zr_iinc (pc := 146) hV [some (ZR 0), some (ZI one), some (ZI other), some (ZI (zq_or r20 r25)), some (ZI r31), some (ZI (x5_63 + 1)), some (ZI x6_114)] (x5_63 + 1) dX12_like_146 rfl rfl (by decide) rfl rfl ?_
                          refine zr_goto (pc := 149) hV 63 dX12_like_149 (by decide) ?_
                          have t52 := zx_g22 hσ108
                          have t53 : σ108 0 22 = σ99 0 22 := hfσ108 _ _ (by omega)
                          have t54 : σ99 0 22 = σ90 0 22 := hfσ99 _ _ (by omega)
                          have t55 : σ90 0 22 = σ82 0 22 := hfσ90 _ _ (by omega)
                          have t56 : σ82 0 22 = σ74 0 22 := hfσ82 _ _ (by omega)
                          have t57 : σ74 0 22 = σ_63 0 22 := hfσ74 _ _ (by omega)
                          refine zr_sub (pc := 63) hV [some (ZR 0), some (ZI one), some (ZI other), some (ZI (zq_or r20 r25)), some (ZI r31), some (ZI (x5_63 + 1)), none] (⟨rfl, rfl, rfl, rfl, rfl, rfl, trivial⟩) ?_
                          exact ih63 (x5_63 + 1) σ108 (by omega) hσ108 hFσ108 Oσ108 (by omega) (by omega)
                        · show V 121 [some (ZR 0), some (ZI one), some (ZI other), some (ZI (zq_or r20 r25)), some (ZI r31), some (ZI x5_63), some (ZI x6_114)] [] 41 σ108
                          refine zr_aload_n (pc := 121) hV dX12_like_121 rfl rfl ?_
                          refine zr_getR (pc := 122) hV 19 11 dX12_like_122 fX12_50 rfl rfl rfl (by decide) (zx_g19 hσ108) (by omega) ?_
                          refine zr_iload (pc := 125) hV dX12_like_125 rfl ?_
                          refine zr_iald (pc := 127) hV dX12_like_127 rfl (by decide) rfl (by omega) ?_
                          have t58 := zx_ga11 hσ108 x6_114
                          refine zr_aload_n (pc := 128) hV dX12_like_128 rfl rfl ?_
                          refine zr_getR (pc := 129) hV 20 12 dX12_like_129 fX12_53 rfl rfl rfl (by decide) (zx_g20 hσ108) (by omega) ?_
                          refine zr_iload (pc := 132) hV dX12_like_132 rfl ?_
                          refine zr_iald (pc := 134) hV dX12_like_134 rfl (by decide) rfl (by omega) ?_
                          have t59 := zx_ga12 hσ108 x6_114
                          refine zr_icmp_eq (pc := 135) hV 140 dX12_like_135 (by decide) (by omega) (by omega) (fun c60 => ?_) (fun c60 => ?_)
                          · show V 140 [some (ZR 0), some (ZI one), some (ZI other), some (ZI (zq_or r20 r25)), some (ZI r31), some (ZI x5_63), some (ZI x6_114)] [] 41 σ108
                            refine zr_iinc (pc := 140) hV [some (ZR 0), some (ZI one), some (ZI other), some (ZI (zq_or r20 r25)), some (ZI r31), some (ZI x5_63), some (ZI (x6_114 + 1))] (x6_114 + 1) dX12_like_140 rfl rfl (by decide) rfl rfl ?_
                            refine zr_goto (pc := 143) hV 114 dX12_like_143 (by decide) ?_
                            exact ih114 (x6_114 + 1) (by omega) (by omega)
                          · show V 138 [some (ZR 0), some (ZI one), some (ZI other), some (ZI (zq_or r20 r25)), some (ZI r31), some (ZI x5_63), some (ZI x6_114)] [] 41 σ108
                            refine zr_iconst (pc := 138) hV 0 dX12_like_138 rfl ?_
                            exact zr_iret (pc := 139) hV dX12_like_139 rfl rfl ⟨_, rfl, ⟨by decide, by decide⟩, hσ108, hFσ108, trivial, Oσ108⟩
                    exact L114 (9 - (0 : Int) + 1 : Int).toNat 0 (by omega) (by omega)
              have t61 := zx_g22 hσ_41
              exact L63 (2147483647 - (0 : Int) + 1 : Int).toNat 0 σ_41 (by omega) hσ_41 hFσ_41 Oσ_41 (by omega) (by omega)
      have t62 := zx_g22 hσ38
      have t63 : σ38 0 22 = 0 := by rw [eσ38]; exact zq_up_same _ _ _ _
      exact L41 (4 - σ38 0 22 + 1 : Int).toNat σ38 hσ38 hFσ38 Oσ38 (by omega)
    · show V 16 [some (ZR 0), some (ZI one), some (ZI other), none, none, none, none] [] 41 σ
      refine zr_iconst (pc := 16) hV (-1) dX12_like_16 rfl ?_
      exact zr_iret (pc := 17) hV dX12_like_17 rfl rfl ⟨_, rfl, ⟨by decide, by decide⟩, hσ, (fun a i _ => rfl), trivial, Oσ⟩

