set_option maxHeartbeats 800000 in
theorem c_X12_make {σ : zq_S} (hσ : zx_T σ) (place : Int) (q0 : zq_in place) (Kσ : zx_K σ) (Uσ : zx_U σ) : zq_C zx_w yX12_make cX12_make 4 (some .int) 6 148 41 41 [ZR 0, ZI place] σ (zq_pi (fun r τ => zx_T τ ∧ (∀ a i : Int, (¬ (a = 0 ∧ i = 54) ∧ ¬ (a = 0 ∧ i = 55) ∧ ¬ (a = 0 ∧ i = 59) ∧ a ≠ 14 ∧ a ≠ 19 ∧ a ≠ 31 ∧ a ≠ 32 ∧ a ≠ 33 ∧ a ≠ 34 ∧ a ≠ 35 ∧ a ≠ 36) → τ a i = σ a i) ∧ (True) ∧ zx_K τ ∧ zx_U τ)) := by
  refine zq_C_of (by decide) (Nat.le_refl _) (Nat.le_of_ble_eq_true rfl) [some (ZR 0), some (ZI place), none, none] rfl (fun V hV => ?_)
  show V 0 [some (ZR 0), some (ZI place), none, none] [] 41 σ
  refine zr_iload_n (pc := 0) hV dX12_make_0 rfl rfl ?_
  refine zr_i2l (pc := 1) hV dX12_make_1 (by omega) ?_
  refine zr_lconst (pc := 2) hV 0 dX12_make_2 (by decide) ?_
  refine zr_ldc2 (pc := 3) (v := 63) hV 63 dX12_make_3 kX12_344 (by decide) ?_
  refine zr_callSp (pc := 6) hV [ZL place, ZL 0, ZL 63] (st := []) (c_X12_in (σ := σ) place 0 63 (by omega) (by omega) (by omega)) dX12_make_6 mX12_170 (by decide) (Nat.le_of_ble_eq_true rfl) (Nat.le_refl _) (fun r6 hr6 pr6 => ?_)
  refine zr_if_ne (pc := 9) hV 14 dX12_make_9 (by decide) (by omega) (fun c1 => ?_) (fun c1 => ?_)
  · show V 14 [some (ZR 0), some (ZI place), none, none] [] 41 σ
    refine zr_aload_n (pc := 14) hV dX12_make_14 rfl rfl ?_
    refine zr_getI (pc := 15) hV 36 dX12_make_15 fX12_160 rfl rfl rfl (by decide) ?_
    have t2 := zx_g36 hσ
    refine zr_if_ne (pc := 18) hV 24 dX12_make_18 (by decide) (by omega) (fun c3 => ?_) (fun c3 => ?_)
    · show V 24 [some (ZR 0), some (ZI place), none, none] [] 41 σ
      have u1 := (Uσ (by omega)).1
      have z37 := zx_g37 hσ
      obtain ⟨f, hf⟩ := (Uσ (by omega)).2
      refine zr_aload_n (pc := 24) hV dX12_make_24 rfl rfl ?_
      have t4 := zx_g37 hσ
      refine zr_callVi (pc := 25) hV [] (st := []) (c_X12_findPrices (σ := σ) hσ (by omega) (zx_Lt_of hf)) dX12_make_25 mX12_440 rfl (by decide) (by decide) (Nat.le_of_ble_eq_true rfl) (Nat.le_refl _) (fun r25 σ25 hr25 pσ25 => ?_)
      obtain ⟨hσ25, hfσ25, pσ25, wσ25⟩ := pσ25
      have Kσ25 : zx_K σ25 := zx_K_fr (fun i => hfσ25 14 i (by omega)) (hfσ25 0 2 (by omega)) Kσ
      have Uσ25 : zx_U σ25 := zx_U_fr (hfσ25 0 36 (by omega)) (hfσ25 0 37 (by omega)) (fun i => hfσ25 21 i (by omega)) (fun i => hfσ25 23 i (by omega)) (fun i => hfσ25 24 i (by omega)) Uσ
      have hFσ25 : ∀ a i : Int, (¬ (a = 0 ∧ i = 54) ∧ ¬ (a = 0 ∧ i = 55) ∧ ¬ (a = 0 ∧ i = 59) ∧ a ≠ 14 ∧ a ≠ 19 ∧ a ≠ 31 ∧ a ≠ 32 ∧ a ≠ 33 ∧ a ≠ 34 ∧ a ≠ 35 ∧ a ≠ 36) → σ25 a i = σ a i := fun a i h => (hfσ25 a i ⟨h.2.2.2.2.2.1, h.2.2.2.2.2.2.1⟩)
      refine zr_if_ge (pc := 28) hV 34 dX12_make_28 (by decide) (by omega) (fun c5 => ?_) (fun c5 => ?_)
      · show V 34 [some (ZR 0), some (ZI place), none, none] [] 41 σ25
        have fp : zx_FP σ25 := wσ25 (by omega)
        refine zr_aload_n (pc := 34) hV dX12_make_34 rfl rfl ?_
        refine zr_iconst (pc := 35) hV 0 dX12_make_35 rfl ?_
        refine zr_putI (pc := 36) hV 54 dX12_make_36 fX12_446 rfl rfl rfl rfl (by decide) (fun σ36 eσ36 => ?_)
        have hσ36 : zx_T σ36 := zx_u54 eσ36 hσ25 (by omega)
        have hFσ36 : ∀ a i : Int, (¬ (a = 0 ∧ i = 54) ∧ ¬ (a = 0 ∧ i = 55) ∧ ¬ (a = 0 ∧ i = 59) ∧ a ≠ 14 ∧ a ≠ 19 ∧ a ≠ 31 ∧ a ≠ 32 ∧ a ≠ 33 ∧ a ≠ 34 ∧ a ≠ 35 ∧ a ≠ 36) → σ36 a i = σ a i := fun a i h => by rw [eσ36, zq_up_ne h.1]; exact hFσ25 a i h
        have Kσ36 : zx_K σ36 := zx_K_fr (fun i => by rw [eσ36]; exact zq_up_ne (by omega)) (by rw [eσ36]; exact zq_up_ne (by omega)) Kσ25
        have Uσ36 : zx_U σ36 := zx_U_fr (by rw [eσ36]; exact zq_up_ne (by omega)) (by rw [eσ36]; exact zq_up_ne (by omega)) (fun i => by rw [eσ36]; exact zq_up_ne (by omega)) (fun i => by rw [eσ36]; exact zq_up_ne (by omega)) (fun i => by rw [eσ36]; exact zq_up_ne (by omega)) Uσ25
        refine zr_aload_n (pc := 39) hV dX12_make_39 rfl rfl ?_
        refine zr_iconst (pc := 40) hV 1 dX12_make_40 rfl ?_
        refine zr_putZ (pc := 41) hV 55 dX12_make_41 fX12_443 rfl rfl rfl (by omega) rfl (by decide) (fun σ41 eσ41 => ?_)
        have hσ41 : zx_T σ41 := zx_u55 eσ41 hσ36 (by omega)
        have hFσ41 : ∀ a i : Int, (¬ (a = 0 ∧ i = 54) ∧ ¬ (a = 0 ∧ i = 55) ∧ ¬ (a = 0 ∧ i = 59) ∧ a ≠ 14 ∧ a ≠ 19 ∧ a ≠ 31 ∧ a ≠ 32 ∧ a ≠ 33 ∧ a ≠ 34 ∧ a ≠ 35 ∧ a ≠ 36) → σ41 a i = σ a i := fun a i h => by rw [eσ41, zq_up_ne h.2.1]; exact hFσ36 a i h
        have Kσ41 : zx_K σ41 := zx_K_fr (fun i => by rw [eσ41]; exact zq_up_ne (by omega)) (by rw [eσ41]; exact zq_up_ne (by omega)) Kσ36
        have Uσ41 : zx_U σ41 := zx_U_fr (by rw [eσ41]; exact zq_up_ne (by omega)) (by rw [eσ41]; exact zq_up_ne (by omega)) (fun i => by rw [eσ41]; exact zq_up_ne (by omega)) (fun i => by rw [eσ41]; exact zq_up_ne (by omega)) (fun i => by rw [eσ41]; exact zq_up_ne (by omega)) Uσ36
        have e37 : σ41 0 37 = σ25 0 37 := by rw [eσ41, zq_up_ne (by omega), eσ36, zq_up_ne (by omega)]
        have e37b := hfσ25 0 37 (by omega)
        have e3b := hfσ25 0 3 (by omega)
        have z3 := zx_g3 hσ
        have e54 : σ41 0 54 = 0 := by rw [eσ41, zq_up_ne (by omega), eσ36, zq_up_same]
        have Bσ41 : zx_MB σ41 := fun k h0 h1 => absurd h1 (by omega)
        have e21 : σ41 21 (σ41 0 37 - 1) = σ25 21 (σ25 0 37 - 1) := by rw [e37, eσ41, zq_up_ne (by omega), eσ36, zq_up_ne (by omega)]
        have e32 : σ41 32 (σ41 0 37 - 1) = σ25 32 (σ25 0 37 - 1) := by rw [e37, eσ41, zq_up_ne (by omega), eσ36, zq_up_ne (by omega)]
        have e31 : σ41 31 (σ41 0 37 - 1) = σ25 31 (σ25 0 37 - 1) := by rw [e37, eσ41, zq_up_ne (by omega), eσ36, zq_up_ne (by omega)]
        refine zr_aload_n (pc := 44) hV dX12_make_44 rfl rfl ?_
        refine zr_getI (pc := 45) hV 37 dX12_make_45 fX12_422 rfl rfl rfl (by decide) ?_
        have t6 := zx_g37 hσ41
        have t7 : σ41 0 37 = σ36 0 37 := by rw [eσ41]; exact zq_up_ne (by omega)
        have t8 : σ36 0 37 = σ25 0 37 := by rw [eσ36]; exact zq_up_ne (by omega)
        have t9 : σ25 0 37 = σ 0 37 := hfσ25 _ _ (by omega)
        refine zr_iconst (pc := 48) hV 1 dX12_make_48 rfl ?_
        refine zr_isub (pc := 49) hV dX12_make_49 ?_
        refine zr_istore_n (pc := 50) hV [some (ZR 0), some (ZI place), some (ZI ((σ41 0 37) - 1)), none] dX12_make_50 rfl (by decide) rfl rfl ?_
        refine zr_aload_n (pc := 51) hV dX12_make_51 rfl rfl ?_
        refine zr_getR (pc := 52) hV 38 21 dX12_make_52 fX12_87 rfl rfl rfl (by decide) (zx_g38 hσ41) (by omega) ?_
        refine zr_iload_n (pc := 55) hV dX12_make_55 rfl rfl ?_
        refine zr_iald (pc := 56) hV dX12_make_56 rfl (by decide) rfl (by omega) ?_
        have t10 := zx_ga21 hσ41 ((σ41 0 37) - 1)
        have t11 : σ41 21 ((σ41 0 37) - 1) = σ36 21 ((σ41 0 37) - 1) := by rw [eσ41]; exact zq_up_ne (by omega)
        have t12 : σ36 21 ((σ41 0 37) - 1) = σ25 21 ((σ41 0 37) - 1) := by rw [eσ36]; exact zq_up_ne (by omega)
        have t13 : σ25 21 ((σ41 0 37) - 1) = σ 21 ((σ41 0 37) - 1) := hfσ25 _ _ (by omega)
        have J120 : ∀ (σ_120 : zq_S), (zx_T σ_120) → (∀ a i : Int, (¬ (a = 0 ∧ i = 54) ∧ ¬ (a = 0 ∧ i = 55) ∧ ¬ (a = 0 ∧ i = 59) ∧ a ≠ 14 ∧ a ≠ 19 ∧ a ≠ 31 ∧ a ≠ 32 ∧ a ≠ 33 ∧ a ≠ 34 ∧ a ≠ 35 ∧ a ≠ 36) → σ_120 a i = σ a i) → (zx_K σ_120) → (zx_U σ_120) → (zx_MB σ_120) → V 120 [some (ZR 0), some (ZI place), none, none] [] 41 σ_120 := by
          intro σ_120 hσ_120 hFσ_120 Kσ_120 Uσ_120 hi120_0
          show V 120 [some (ZR 0), some (ZI place), none, none] [] 41 σ_120
          refine zr_aload_n (pc := 120) hV dX12_make_120 rfl rfl ?_
          refine zr_getI (pc := 121) hV 55 dX12_make_121 fX12_443 rfl rfl rfl (by decide) ?_
          have t14 := zx_g55 hσ_120
          refine zr_if_eq (pc := 124) hV 138 dX12_make_124 (by decide) (by omega) (fun c15 => ?_) (fun c15 => ?_)
          · show V 138 [some (ZR 0), some (ZI place), none, none] [] 41 σ_120
            refine zr_bipush (pc := 138) hV (-3) dX12_make_138 (by decide) ?_
            exact zr_iret (pc := 140) hV dX12_make_140 rfl rfl ⟨_, rfl, ⟨by decide, by decide⟩, hσ_120, hFσ_120, trivial, Kσ_120, Uσ_120⟩
          · show V 127 [some (ZR 0), some (ZI place), none, none] [] 41 σ_120
            refine zr_iload_n (pc := 127) hV dX12_make_127 rfl rfl ?_
            refine zr_aload_n (pc := 128) hV dX12_make_128 rfl rfl ?_
            refine zr_getI (pc := 129) hV 54 dX12_make_129 fX12_446 rfl rfl rfl (by decide) ?_
            have t16 := zx_g54 hσ_120
            refine zr_iadd (pc := 132) hV dX12_make_132 ?_
            refine zr_bipush (pc := 133) hV 64 dX12_make_133 (by decide) ?_
            refine zr_icmp_le (pc := 135) hV 141 dX12_make_135 (by decide) (by omega) ⟨by decide, by decide⟩ (fun c17 => ?_) (fun c17 => ?_)
            · show V 141 [some (ZR 0), some (ZI place), none, none] [] 41 σ_120
              refine zr_iconst (pc := 141) hV 0 dX12_make_141 rfl ?_
              refine zr_istore_n (pc := 142) hV [some (ZR 0), some (ZI place), none, some (ZI 0)] dX12_make_142 rfl (by decide) rfl rfl ?_
              have t18 := zx_g54 hσ_120
              have L143 : ∀ (fuel : Nat) (x3_143 : Int) (σ_143 : zq_S), (0 ≤ x3_143 ∧ x3_143 ≤ 80) → (zx_T σ_143) → (∀ a i : Int, (¬ (a = 0 ∧ i = 54) ∧ ¬ (a = 0 ∧ i = 55) ∧ ¬ (a = 0 ∧ i = 59) ∧ a ≠ 14 ∧ a ≠ 19 ∧ a ≠ 31 ∧ a ≠ 32 ∧ a ≠ 33 ∧ a ≠ 34 ∧ a ≠ 35 ∧ a ≠ 36) → σ_143 a i = σ a i) → (zx_K σ_143) → (zx_U σ_143) → (zx_MB σ_143) → (σ_143 0 54 = σ_120 0 54) → 80 - x3_143 < (fuel : Int) → V 143 [some (ZR 0), some (ZI place), none, some (ZI x3_143)] [] 41 σ_143 := by
                intro fuel
                induction fuel with
                | zero =>
                  intro x3_143 σ_143 hx3_143 hσ_143 hFσ_143 Kσ_143 Uσ_143 hi143_0 hi143_1 hm143
                  exfalso; omega
                | succ fuel ih =>
                  intro x3_143 σ_143 hx3_143 hσ_143 hFσ_143 Kσ_143 Uσ_143 hi143_0 hi143_1 hm143
                  have ih143 := ih
                  show V 143 [some (ZR 0), some (ZI place), none, some (ZI x3_143)] [] 41 σ_143
                  refine zr_iload_n (pc := 143) hV dX12_make_143 rfl rfl ?_
                  refine zr_aload_n (pc := 144) hV dX12_make_144 rfl rfl ?_
                  refine zr_getI (pc := 145) hV 54 dX12_make_145 fX12_446 rfl rfl rfl (by decide) ?_
                  have t19 := zx_g54 hσ_143
                  refine zr_icmp_ge (pc := 148) hV 171 dX12_make_148 (by decide) (by omega) (by omega) (fun c20 => ?_) (fun c20 => ?_)
                  · show V 171 [some (ZR 0), some (ZI place), none, some (ZI x3_143)] [] 41 σ_143
                    refine zr_aload_n (pc := 171) hV dX12_make_171 rfl rfl ?_
                    refine zr_getI (pc := 172) hV 54 dX12_make_172 fX12_446 rfl rfl rfl (by decide) ?_
                    have t21 := zx_g54 hσ_143
                    exact zr_iret (pc := 175) hV dX12_make_175 rfl rfl ⟨_, rfl, (by omega), hσ_143, hFσ_143, trivial, Kσ_143, Uσ_143⟩
                  · show V 151 [some (ZR 0), some (ZI place), none, some (ZI x3_143)] [] 41 σ_143
                    refine zr_aload_n (pc := 151) hV dX12_make_151 rfl rfl ?_
                    refine zr_getR (pc := 152) hV 23 14 dX12_make_152 fX12_59 rfl rfl rfl (by decide) (zx_g23 hσ_143) (by omega) ?_
                    refine zr_iload_n (pc := 155) hV dX12_make_155 rfl rfl ?_
                    refine zr_iload_n (pc := 156) hV dX12_make_156 rfl rfl ?_
                    refine zr_iadd (pc := 157) hV dX12_make_157 ?_
                    refine zr_aload_n (pc := 158) hV dX12_make_158 rfl rfl ?_
                    refine zr_getR (pc := 159) hV 53 33 dX12_make_159 fX12_123 rfl rfl rfl (by decide) (zx_g53 hσ_143) (by omega) ?_
                    refine zr_iload_n (pc := 162) hV dX12_make_162 rfl rfl ?_
                    refine zr_iald (pc := 163) hV dX12_make_163 rfl (by decide) rfl (by omega) ?_
                    have t22 := zx_ga33 hσ_143 x3_143
                    have kb := hi143_0 x3_143 (by omega) (by omega)
                    refine zr_iast (pc := 164) hV dX12_make_164 rfl (by decide) rfl (by omega) (fun σ164 eσ164 => ?_)
                    have hσ164 : zx_T σ164 := zx_ua14 eσ164 hσ_143 (by omega)
                    have hFσ164 : ∀ a i : Int, (¬ (a = 0 ∧ i = 54) ∧ ¬ (a = 0 ∧ i = 55) ∧ ¬ (a = 0 ∧ i = 59) ∧ a ≠ 14 ∧ a ≠ 19 ∧ a ≠ 31 ∧ a ≠ 32 ∧ a ≠ 33 ∧ a ≠ 34 ∧ a ≠ 35 ∧ a ≠ 36) → σ164 a i = σ a i := fun a i h => by rw [eσ164, zq_up_ne (fun q => h.2.2.2.1 q.1)]; exact hFσ_143 a i h
                    have Kσ164 : zx_K σ164 := zx_K_up Kσ_143 eσ164 kb
                    have Uσ164 : zx_U σ164 := zx_U_fr (by rw [eσ164]; exact zq_up_ne (by omega)) (by rw [eσ164]; exact zq_up_ne (by omega)) (fun i => by rw [eσ164]; exact zq_up_ne (by omega)) (fun i => by rw [eσ164]; exact zq_up_ne (by omega)) (fun i => by rw [eσ164]; exact zq_up_ne (by omega)) Uσ_143
                    refine zr_iinc (pc := 165) hV [some (ZR 0), some (ZI place), none, some (ZI (x3_143 + 1))] (x3_143 + 1) dX12_make_165 rfl rfl (by decide) rfl rfl ?_
                    refine zr_goto (pc := 168) hV 143 dX12_make_168 (by decide) ?_
                    have t23 := zx_g54 hσ164
                    have t24 : σ164 0 54 = σ_143 0 54 := by rw [eσ164]; exact zq_up_ne (by omega)
                    exact ih143 (x3_143 + 1) σ164 (by omega) hσ164 hFσ164 Kσ164 Uσ164 (zx_MB_fr (fun i => by rw [eσ164, zq_up_ne (by omega)]) (by rw [eσ164, zq_up_ne (by omega)]) (by rw [eσ164, zq_up_ne (by omega)]) hi143_0) (by omega) (by omega)
              have t25 := zx_g54 hσ_120
              exact L143 (80 - (0 : Int) + 1 : Int).toNat 0 σ_120 (by omega) hσ_120 hFσ_120 Kσ_120 Uσ_120 hi120_0 (by omega) (by omega)
            · show V 138 [some (ZR 0), some (ZI place), none, none] [] 41 σ_120
              refine zr_bipush (pc := 138) hV (-3) dX12_make_138 (by decide) ?_
              exact zr_iret (pc := 140) hV dX12_make_140 rfl rfl ⟨_, rfl, ⟨by decide, by decide⟩, hσ_120, hFσ_120, trivial, Kσ_120, Uσ_120⟩
        refine zr_if_ne (pc := 57) hV 85 dX12_make_57 (by decide) (by omega) (fun c26 => ?_) (fun c26 => ?_)
        · show V 85 [some (ZR 0), some (ZI place), some (ZI ((σ41 0 37) - 1)), none] [] 41 σ41
          have fq := fp.2 (by omega)
          refine zr_aload_n (pc := 85) hV dX12_make_85 rfl rfl ?_
          refine zr_iconst (pc := 86) hV 0 dX12_make_86 rfl ?_
          refine zr_putI (pc := 87) hV 59 dX12_make_87 fX12_449 rfl rfl rfl rfl (by decide) (fun σ87 eσ87 => ?_)
          have hσ87 : zx_T σ87 := zx_u59 eσ87 hσ41 (by omega)
          have hFσ87 : ∀ a i : Int, (¬ (a = 0 ∧ i = 54) ∧ ¬ (a = 0 ∧ i = 55) ∧ ¬ (a = 0 ∧ i = 59) ∧ a ≠ 14 ∧ a ≠ 19 ∧ a ≠ 31 ∧ a ≠ 32 ∧ a ≠ 33 ∧ a ≠ 34 ∧ a ≠ 35 ∧ a ≠ 36) → σ87 a i = σ a i := fun a i h => by rw [eσ87, zq_up_ne h.2.2.1]; exact hFσ41 a i h
          have Kσ87 : zx_K σ87 := zx_K_fr (fun i => by rw [eσ87]; exact zq_up_ne (by omega)) (by rw [eσ87]; exact zq_up_ne (by omega)) Kσ41
          have Uσ87 : zx_U σ87 := zx_U_fr (by rw [eσ87]; exact zq_up_ne (by omega)) (by rw [eσ87]; exact zq_up_ne (by omega)) (fun i => by rw [eσ87]; exact zq_up_ne (by omega)) (fun i => by rw [eσ87]; exact zq_up_ne (by omega)) (fun i => by rw [eσ87]; exact zq_up_ne (by omega)) Uσ41
          refine zr_aload_n (pc := 90) hV dX12_make_90 rfl rfl ?_
          refine zr_iload_n (pc := 91) hV dX12_make_91 rfl rfl ?_
          refine zr_aload_n (pc := 92) hV dX12_make_92 rfl rfl ?_
          refine zr_getI (pc := 93) hV 35 dX12_make_93 fX12_84 rfl rfl rfl (by decide) ?_
          have t27 := zx_g35 hσ87
          have t28 : σ87 0 35 = σ41 0 35 := by rw [eσ87]; exact zq_up_ne (by omega)
          have t29 : σ41 0 35 = σ36 0 35 := by rw [eσ41]; exact zq_up_ne (by omega)
          have t30 : σ36 0 35 = σ25 0 35 := by rw [eσ36]; exact zq_up_ne (by omega)
          have t31 : σ25 0 35 = σ 0 35 := hfσ25 _ _ (by omega)
          have t32 := zx_g59 hσ87
          have t33 : σ87 0 59 = 0 := by rw [eσ87]; exact zq_up_same _ _ _ _
          refine zr_callVv (pc := 96) hV [ZI ((σ41 0 37) - 1), ZI (σ87 0 35)] (st := []) (c_X12_addJob2 (σ := σ87) hσ87 ((σ41 0 37) - 1) (σ87 0 35) (by omega) (by omega) (by omega)) dX12_make_96 mX12_456 rfl (by decide) (by decide) (Nat.le_of_ble_eq_true rfl) (Nat.le_refl _) (fun σ96 pσ96 => ?_)
          obtain ⟨hσ96, hfσ96, pσ96⟩ := pσ96
          have Kσ96 : zx_K σ96 := zx_K_fr (fun i => hfσ96 14 i (by omega)) (hfσ96 0 2 (by omega)) Kσ87
          have Uσ96 : zx_U σ96 := zx_U_fr (hfσ96 0 36 (by omega)) (hfσ96 0 37 (by omega)) (fun i => hfσ96 21 i (by omega)) (fun i => hfσ96 23 i (by omega)) (fun i => hfσ96 24 i (by omega)) Uσ87
          have hFσ96 : ∀ a i : Int, (¬ (a = 0 ∧ i = 54) ∧ ¬ (a = 0 ∧ i = 55) ∧ ¬ (a = 0 ∧ i = 59) ∧ a ≠ 14 ∧ a ≠ 19 ∧ a ≠ 31 ∧ a ≠ 32 ∧ a ≠ 33 ∧ a ≠ 34 ∧ a ≠ 35 ∧ a ≠ 36) → σ96 a i = σ a i := fun a i h => (hfσ96 a i ⟨h.2.2.1, (fun q => h.2.2.2.2.2.2.2.2.1 q.1), (fun q => h.2.2.2.2.2.2.2.2.2.1 q.1), (fun q => h.2.2.2.2.2.2.2.2.2.2 q.1)⟩).trans (hFσ87 a i h)
          have t34 := zx_g59 hσ87
          have t35 : σ87 0 59 = 0 := by rw [eσ87]; exact zq_up_same _ _ _ _
          have t36 := zx_g59 hσ96
          have t96 : zx_tree (σ96 21) (σ96 23) (σ96 24) f (σ96 0 37) := by rw [show σ96 0 37 = σ 0 37 from hFσ96 0 37 (by omega)]; exact zx_tree_fr (fun j _ _ => hFσ96 21 j (by omega)) (fun j _ _ => hFσ96 23 j (by omega)) (fun j _ _ => hFσ96 24 j (by omega)) hf
          have v59 : σ87 0 59 = 0 := by rw [eσ87, zq_up_same]
          have c34 := pσ96.2.1
          have c36 := pσ96.2.2
          rw [v59] at c34 c36
          have v37 : σ96 0 37 = σ41 0 37 := by rw [hfσ96 0 37 (by omega), eσ87, zq_up_ne (by omega)]
          have v54 : σ96 0 54 = 0 := by rw [hfσ96 0 54 (by omega), eσ87, zq_up_ne (by omega)]; exact e54
          have v21 : σ96 21 (σ96 0 37 - 1) = σ41 21 (σ41 0 37 - 1) := by rw [v37, hfσ96 21 _ (by omega), eσ87, zq_up_ne (by omega)]
          have v31 : σ96 31 (σ96 0 37 - 1) = σ41 31 (σ41 0 37 - 1) := by rw [v37, hfσ96 31 _ (by omega), eσ87, zq_up_ne (by omega)]
          have j96 : zx_J σ96 f (f (σ96 0 37 - 1)) := zx_J_0 t96 (by omega) (by rw [pσ96.1]; omega) (by rw [c34]; omega) c36 v54 (by omega) (by omega)
          have b96 : zx_MB σ96 := fun k h0 h1 => absurd h1 (by omega)
          have r96p : zx_PR σ96 (zx_lm σ96 (σ96 0 3)) (σ96 0 37) := zx_PR_fr2 (fun a i h => by rw [hfσ96 a i (by omega), eσ87, zq_up_ne (by omega), eσ41, zq_up_ne (by omega), eσ36, zq_up_ne (by omega)]) fq.2
          have nn96 := zx_mu_nn j96
          have L99 : ∀ (fuel : Nat) (σ_99 : zq_S) (p99 : Int), (zx_T σ_99) → (∀ a i : Int, (¬ (a = 0 ∧ i = 54) ∧ ¬ (a = 0 ∧ i = 55) ∧ ¬ (a = 0 ∧ i = 59) ∧ a ≠ 14 ∧ a ≠ 19 ∧ a ≠ 31 ∧ a ≠ 32 ∧ a ≠ 33 ∧ a ≠ 34 ∧ a ≠ 35 ∧ a ≠ 36) → σ_99 a i = σ a i) → (zx_K σ_99) → (zx_U σ_99) → (zx_J σ_99 f p99) → (zx_MB σ_99) → (zx_PR σ_99 (zx_lm σ_99 (σ_99 0 3)) (σ_99 0 37)) → zx_mu σ_99 p99 < (fuel : Int) → V 99 [some (ZR 0), some (ZI place), none, none] [] 41 σ_99 := by
            intro fuel
            induction fuel with
            | zero =>
              intro σ_99 p99 hσ_99 hFσ_99 Kσ_99 Uσ_99 hi99_0 hi99_1 hi99_2 hm99
              exfalso; have := zx_mu_nn hi99_0; omega
            | succ fuel ih =>
              intro σ_99 p99 hσ_99 hFσ_99 Kσ_99 Uσ_99 hi99_0 hi99_1 hi99_2 hm99
              have ih99 := ih
              show V 99 [some (ZR 0), some (ZI place), none, none] [] 41 σ_99
              refine zr_aload_n (pc := 99) hV dX12_make_99 rfl rfl ?_
              refine zr_getI (pc := 100) hV 59 dX12_make_100 fX12_449 rfl rfl rfl (by decide) ?_
              have t37 := zx_g59 hσ_99
              refine zr_if_le (pc := 103) hV 120 dX12_make_103 (by decide) (by omega) (fun c38 => ?_) (fun c38 => ?_)
              · exact J120 σ_99 hσ_99 hFσ_99 Kσ_99 Uσ_99 hi99_1
              · show V 106 [some (ZR 0), some (ZI place), none, none] [] 41 σ_99
                refine zr_aload_n (pc := 106) hV dX12_make_106 rfl rfl ?_
                refine zr_getI (pc := 107) hV 55 dX12_make_107 fX12_443 rfl rfl rfl (by decide) ?_
                have t39 := zx_g55 hσ_99
                refine zr_if_eq (pc := 110) hV 120 dX12_make_110 (by decide) (by omega) (fun c40 => ?_) (fun c40 => ?_)
                · exact J120 σ_99 hσ_99 hFσ_99 Kσ_99 Uσ_99 hi99_1
                · show V 113 [some (ZR 0), some (ZI place), none, none] [] 41 σ_99
                  have t_99 : zx_tree (σ_99 21) (σ_99 23) (σ_99 24) f (σ_99 0 37) := by rw [show σ_99 0 37 = σ 0 37 from hFσ_99 0 37 (by omega)]; exact zx_tree_fr (fun j _ _ => hFσ_99 21 j (by omega)) (fun j _ _ => hFσ_99 23 j (by omega)) (fun j _ _ => hFσ_99 24 j (by omega)) hf
                  have Bσ_99 := hi99_1
                  refine zr_aload_n (pc := 113) hV dX12_make_113 rfl rfl ?_
                  have t41 := zx_g37 hσ_99
                  have t42 : σ_99 0 37 = σ 0 37 := hFσ_99 _ _ (by omega)
                  have t43 := zx_g3 hσ_99
                  have t44 : σ_99 0 3 = σ 0 3 := hFσ_99 _ _ (by omega)
                  have t45 := zx_g37 hσ_99
                  have t46 : σ_99 0 37 = σ 0 37 := hFσ_99 _ _ (by omega)
                  have t47 := zx_g59 hσ_99
                  refine zr_callVv (pc := 114) hV [] (st := []) (c_X12_doJob (σ := σ_99) hσ_99 f p99 t_99 hi99_2 hi99_0 (by omega) Bσ_99) dX12_make_114 mX12_459 rfl (by decide) (by decide) (Nat.le_of_ble_eq_true rfl) (Nat.le_refl _) (fun σ114 pσ114 => ?_)
                  obtain ⟨hσ114, hfσ114, pσ114, wσ114, Bσ114⟩ := pσ114
                  have Kσ114 : zx_K σ114 := zx_K_fr (fun i => hfσ114 14 i (by omega)) (hfσ114 0 2 (by omega)) Kσ_99
                  have Uσ114 : zx_U σ114 := zx_U_fr (hfσ114 0 36 (by omega)) (hfσ114 0 37 (by omega)) (fun i => hfσ114 21 i (by omega)) (fun i => hfσ114 23 i (by omega)) (fun i => hfσ114 24 i (by omega)) Uσ_99
                  have hFσ114 : ∀ a i : Int, (¬ (a = 0 ∧ i = 54) ∧ ¬ (a = 0 ∧ i = 55) ∧ ¬ (a = 0 ∧ i = 59) ∧ a ≠ 14 ∧ a ≠ 19 ∧ a ≠ 31 ∧ a ≠ 32 ∧ a ≠ 33 ∧ a ≠ 34 ∧ a ≠ 35 ∧ a ≠ 36) → σ114 a i = σ a i := fun a i h => (hfσ114 a i ⟨h.1, h.2.1, h.2.2.1, h.2.2.2.2.1, h.2.2.2.2.2.2.2.1, h.2.2.2.2.2.2.2.2.1, h.2.2.2.2.2.2.2.2.2.1, h.2.2.2.2.2.2.2.2.2.2⟩).trans (hFσ_99 a i h)
                  obtain ⟨p114, j114, l114⟩ : ∃ p2, zx_J σ114 f p2 ∧ zx_mu σ114 p2 < zx_mu σ_99 p99 := wσ114
                  have r114p : zx_PR σ114 (zx_lm σ114 (σ114 0 3)) (σ114 0 37) := zx_PR_fr2 (fun a i h => hfσ114 a i (by omega)) hi99_2
                  refine zr_goto (pc := 117) hV 99 dX12_make_117 (by decide) ?_
                  have t48 := zx_g3 hσ114
                  have t49 : σ114 0 3 = σ_99 0 3 := hfσ114 _ _ (by omega)
                  have t50 : σ_99 0 3 = σ 0 3 := hFσ_99 _ _ (by omega)
                  have t51 := zx_g37 hσ114
                  have t52 : σ114 0 37 = σ_99 0 37 := hfσ114 _ _ (by omega)
                  have t53 : σ_99 0 37 = σ 0 37 := hFσ_99 _ _ (by omega)
                  exact ih99 σ114 p114 hσ114 hFσ114 Kσ114 Uσ114 j114 Bσ114 r114p (by omega)
          have t54 := zx_g3 hσ96
          have t55 : σ96 0 3 = σ87 0 3 := hfσ96 _ _ (by omega)
          have t56 : σ87 0 3 = σ41 0 3 := by rw [eσ87]; exact zq_up_ne (by omega)
          have t57 : σ41 0 3 = σ36 0 3 := by rw [eσ41]; exact zq_up_ne (by omega)
          have t58 : σ36 0 3 = σ25 0 3 := by rw [eσ36]; exact zq_up_ne (by omega)
          have t59 : σ25 0 3 = σ 0 3 := hfσ25 _ _ (by omega)
          have t60 := zx_g37 hσ96
          have t61 : σ96 0 37 = σ87 0 37 := hfσ96 _ _ (by omega)
          have t62 : σ87 0 37 = σ41 0 37 := by rw [eσ87]; exact zq_up_ne (by omega)
          have t63 : σ41 0 37 = σ36 0 37 := by rw [eσ41]; exact zq_up_ne (by omega)
          have t64 : σ36 0 37 = σ25 0 37 := by rw [eσ36]; exact zq_up_ne (by omega)
          have t65 : σ25 0 37 = σ 0 37 := hfσ25 _ _ (by omega)
          refine zr_sub (pc := 99) hV [some (ZR 0), some (ZI place), none, none] (⟨rfl, rfl, trivial⟩) ?_
          exact L99 (zx_mu σ96 (f (σ96 0 37 - 1)) + 1 : Int).toNat σ96 (f (σ96 0 37 - 1)) hσ96 hFσ96 Kσ96 Uσ96 j96 b96 r96p (by omega)
        · show V 60 [some (ZR 0), some (ZI place), some (ZI ((σ41 0 37) - 1)), none] [] 41 σ41
          have fo := fp.1 (by omega)
          refine zr_aload_n (pc := 60) hV dX12_make_60 rfl rfl ?_
          refine zr_aload_n (pc := 61) hV dX12_make_61 rfl rfl ?_
          refine zr_getR (pc := 62) hV 52 32 dX12_make_62 fX12_120 rfl rfl rfl (by decide) (zx_g52 hσ41) (by omega) ?_
          refine zr_iload_n (pc := 65) hV dX12_make_65 rfl rfl ?_
          refine zr_iald (pc := 66) hV dX12_make_66 rfl (by decide) rfl (by omega) ?_
          have t66 := zx_ga32 hσ41 ((σ41 0 37) - 1)
          have t67 : σ41 32 ((σ41 0 37) - 1) = σ36 32 ((σ41 0 37) - 1) := by rw [eσ41]; exact zq_up_ne (by omega)
          have t68 : σ36 32 ((σ41 0 37) - 1) = σ25 32 ((σ41 0 37) - 1) := by rw [eσ36]; exact zq_up_ne (by omega)
          refine zr_aload_n (pc := 67) hV dX12_make_67 rfl rfl ?_
          refine zr_getI (pc := 68) hV 35 dX12_make_68 fX12_84 rfl rfl rfl (by decide) ?_
          have t69 := zx_g35 hσ41
          have t70 : σ41 0 35 = σ36 0 35 := by rw [eσ41]; exact zq_up_ne (by omega)
          have t71 : σ36 0 35 = σ25 0 35 := by rw [eσ36]; exact zq_up_ne (by omega)
          have t72 : σ25 0 35 = σ 0 35 := hfσ25 _ _ (by omega)
          refine zr_aload_n (pc := 71) hV dX12_make_71 rfl rfl ?_
          refine zr_getR (pc := 72) hV 39 22 dX12_make_72 fX12_90 rfl rfl rfl (by decide) (zx_g39 hσ41) (by omega) ?_
          refine zr_iload_n (pc := 75) hV dX12_make_75 rfl rfl ?_
          refine zr_iald (pc := 76) hV dX12_make_76 rfl (by decide) rfl (by omega) ?_
          have t73 := zx_ga22 hσ41 ((σ41 0 37) - 1)
          have t74 : σ41 22 ((σ41 0 37) - 1) = σ36 22 ((σ41 0 37) - 1) := by rw [eσ41]; exact zq_up_ne (by omega)
          have t75 : σ36 22 ((σ41 0 37) - 1) = σ25 22 ((σ41 0 37) - 1) := by rw [eσ36]; exact zq_up_ne (by omega)
          have t76 : σ25 22 ((σ41 0 37) - 1) = σ 22 ((σ41 0 37) - 1) := hfσ25 _ _ (by omega)
          refine zr_iconst (pc := 77) hV 0 dX12_make_77 rfl ?_
          refine zr_iconst (pc := 78) hV 0 dX12_make_78 rfl ?_
          have t77 := zx_g54 hσ41
          have t78 : σ41 0 54 = σ36 0 54 := by rw [eσ41]; exact zq_up_ne (by omega)
          have t79 : σ36 0 54 = 0 := by rw [eσ36]; exact zq_up_same _ _ _ _
          refine zr_callVv (pc := 79) hV [ZI (σ41 32 ((σ41 0 37) - 1)), ZI (σ41 0 35), ZI (σ41 22 ((σ41 0 37) - 1)), ZI 0, ZI 0] (st := []) (c_X12_emit2 (σ := σ41) hσ41 (σ41 32 ((σ41 0 37) - 1)) (σ41 0 35) (σ41 22 ((σ41 0 37) - 1)) 0 0 (by omega) (by omega) (by omega) (by omega) (by omega) (by omega) Bσ41) dX12_make_79 mX12_452 rfl (by decide) (by decide) (Nat.le_of_ble_eq_true rfl) (Nat.le_refl _) (fun σ79 pσ79 => ?_)
          obtain ⟨hσ79, hfσ79, pσ79, Bσ79⟩ := pσ79
          have Kσ79 : zx_K σ79 := zx_K_fr (fun i => hfσ79 14 i (by omega)) (hfσ79 0 2 (by omega)) Kσ41
          have Uσ79 : zx_U σ79 := zx_U_fr (hfσ79 0 36 (by omega)) (hfσ79 0 37 (by omega)) (fun i => hfσ79 21 i (by omega)) (fun i => hfσ79 23 i (by omega)) (fun i => hfσ79 24 i (by omega)) Uσ41
          have hFσ79 : ∀ a i : Int, (¬ (a = 0 ∧ i = 54) ∧ ¬ (a = 0 ∧ i = 55) ∧ ¬ (a = 0 ∧ i = 59) ∧ a ≠ 14 ∧ a ≠ 19 ∧ a ≠ 31 ∧ a ≠ 32 ∧ a ≠ 33 ∧ a ≠ 34 ∧ a ≠ 35 ∧ a ≠ 36) → σ79 a i = σ a i := fun a i h => (hfσ79 a i ⟨h.1, h.2.1, h.2.2.2.2.1, h.2.2.2.2.2.2.2.1⟩).trans (hFσ41 a i h)
          have t80 := zx_g54 hσ41
          have t81 : σ41 0 54 = σ36 0 54 := by rw [eσ41]; exact zq_up_ne (by omega)
          have t82 : σ36 0 54 = 0 := by rw [eσ36]; exact zq_up_same _ _ _ _
          have t83 := zx_g54 hσ79
          refine zr_goto (pc := 82) hV 120 dX12_make_82 (by decide) ?_
          refine zr_sub (pc := 120) hV [some (ZR 0), some (ZI place), none, none] (⟨rfl, rfl, trivial⟩) ?_
          exact J120 σ79 hσ79 hFσ79 Kσ79 Uσ79 Bσ79
      · show V 31 [some (ZR 0), some (ZI place), none, none] [] 41 σ25
        refine zr_bipush (pc := 31) hV (-4) dX12_make_31 (by decide) ?_
        exact zr_iret (pc := 33) hV dX12_make_33 rfl rfl ⟨_, rfl, ⟨by decide, by decide⟩, hσ25, hFσ25, trivial, Kσ25, Uσ25⟩
    · show V 21 [some (ZR 0), some (ZI place), none, none] [] 41 σ
      refine zr_bipush (pc := 21) hV (-2) dX12_make_21 (by decide) ?_
      exact zr_iret (pc := 23) hV dX12_make_23 rfl rfl ⟨_, rfl, ⟨by decide, by decide⟩, hσ, (fun a i _ => rfl), trivial, Kσ, Uσ⟩
  · show V 12 [some (ZR 0), some (ZI place), none, none] [] 41 σ
    refine zr_iconst (pc := 12) hV (-1) dX12_make_12 rfl ?_
    exact zr_iret (pc := 13) hV dX12_make_13 rfl rfl ⟨_, rfl, ⟨by decide, by decide⟩, hσ, (fun a i _ => rfl), trivial, Kσ, Uσ⟩
