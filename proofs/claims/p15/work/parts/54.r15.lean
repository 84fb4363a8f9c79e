set_option maxHeartbeats 800000 in
theorem c_X12_findPrices {σ : zq_S} (hσ : zx_T σ) (q0 : 1 ≤ σ 0 37) (q1 : zx_Lt σ) : zq_C zx_w yX12_findPrices cX12_findPrices 5 (some .int) 5 122 41 41 [ZR 0] σ (zq_pi (fun r τ => zx_T τ ∧ (∀ a i : Int, (a ≠ 31 ∧ a ≠ 32) → τ a i = σ a i) ∧ (True) ∧ zq_hid (0 ≤ r → zx_FP τ))) := by
  refine zq_C_of (by decide) (Nat.le_refl _) (Nat.le_of_ble_eq_true rfl) [some (ZR 0), none, none, none, none] rfl (fun V hV => ?_)
  have z37 := zx_g37 hσ
  have z3 := zx_g3 hσ
  show V 0 [some (ZR 0), none, none, none, none] [] 41 σ
  refine zr_aload_n (pc := 0) hV dX12_findPrices_0 rfl rfl ?_
  refine zr_callVp (pc := 1) hV [] (st := []) (c_X12_leastMove (σ := σ) hσ ) dX12_findPrices_1 mX12_434 rfl (by decide) (by decide) (Nat.le_of_ble_eq_true rfl) (Nat.le_refl _) (fun r1 hr1 pr1 => ?_)
  have t1 := zx_g3 hσ
  refine zr_istore_n (pc := 4) hV [some (ZR 0), some (ZI r1), none, none, none] dX12_findPrices_4 rfl (by decide) rfl rfl ?_
  refine zr_iconst (pc := 5) hV 0 dX12_findPrices_5 rfl ?_
  refine zr_istore_n (pc := 6) hV [some (ZR 0), some (ZI r1), some (ZI 0), none, none] dX12_findPrices_6 rfl (by decide) rfl rfl ?_
  have L7 : ∀ (fuel : Nat) (x2_7 : Int) (σ_7 : zq_S), (0 ≤ x2_7 ∧ x2_7 ≤ 39) → (zx_T σ_7) → (∀ a i : Int, (a ≠ 31 ∧ a ≠ 32) → σ_7 a i = σ a i) → (zx_PR σ_7 r1 x2_7) → (x2_7 ≤ σ_7 0 37) → 39 - x2_7 < (fuel : Int) → V 7 [some (ZR 0), some (ZI r1), some (ZI x2_7), none, none] [] 41 σ_7 := by
    intro fuel
    induction fuel with
    | zero =>
      intro x2_7 σ_7 hx2_7 hσ_7 hFσ_7 hi7_0 hi7_1 hm7
      exfalso; omega
    | succ fuel ih =>
      intro x2_7 σ_7 hx2_7 hσ_7 hFσ_7 hi7_0 hi7_1 hm7
      have ih7 := ih
      show V 7 [some (ZR 0), some (ZI r1), some (ZI x2_7), none, none] [] 41 σ_7
      refine zr_iload_n (pc := 7) hV dX12_findPrices_7 rfl rfl ?_
      refine zr_aload_n (pc := 8) hV dX12_findPrices_8 rfl rfl ?_
      refine zr_getI (pc := 9) hV 37 dX12_findPrices_9 fX12_422 rfl rfl rfl (by decide) ?_
      have t2 := zx_g37 hσ_7
      have t3 : σ_7 0 37 = σ 0 37 := hFσ_7 _ _ (by omega)
      refine zr_icmp_ge (pc := 12) hV 122 dX12_findPrices_12 (by decide) (by omega) (by omega) (fun c4 => ?_) (fun c4 => ?_)
      · show V 122 [some (ZR 0), some (ZI r1), some (ZI x2_7), none, none] [] 41 σ_7
        refine zr_aload_n (pc := 122) hV dX12_findPrices_122 rfl rfl ?_
        refine zr_getR (pc := 123) hV 38 21 dX12_findPrices_123 fX12_87 rfl rfl rfl (by decide) (zx_g38 hσ_7) (by omega) ?_
        refine zr_aload_n (pc := 126) hV dX12_findPrices_126 rfl rfl ?_
        refine zr_getI (pc := 127) hV 37 dX12_findPrices_127 fX12_422 rfl rfl rfl (by decide) ?_
        have t5 := zx_g37 hσ_7
        have t6 : σ_7 0 37 = σ 0 37 := hFσ_7 _ _ (by omega)
        refine zr_iconst (pc := 130) hV 1 dX12_findPrices_130 rfl ?_
        refine zr_isub (pc := 131) hV dX12_findPrices_131 ?_
        refine zr_iald (pc := 132) hV dX12_findPrices_132 rfl (by decide) rfl (by omega) ?_
        have t7 := zx_ga21 hσ_7 ((σ_7 0 37) - 1)
        have t8 : σ_7 21 ((σ_7 0 37) - 1) = σ 21 ((σ_7 0 37) - 1) := hFσ_7 _ _ (by omega)
        refine zr_if_ne (pc := 133) hV 163 dX12_findPrices_133 (by decide) (by omega) (fun c9 => ?_) (fun c9 => ?_)
        · show V 163 [some (ZR 0), some (ZI r1), some (ZI x2_7), none, none] [] 41 σ_7
          refine zr_aload_n (pc := 163) hV dX12_findPrices_163 rfl rfl ?_
          refine zr_getR (pc := 164) hV 51 31 dX12_findPrices_164 fX12_117 rfl rfl rfl (by decide) (zx_g51 hσ_7) (by omega) ?_
          refine zr_aload_n (pc := 167) hV dX12_findPrices_167 rfl rfl ?_
          refine zr_getI (pc := 168) hV 37 dX12_findPrices_168 fX12_422 rfl rfl rfl (by decide) ?_
          have t10 := zx_g37 hσ_7
          have t11 : σ_7 0 37 = σ 0 37 := hFσ_7 _ _ (by omega)
          refine zr_iconst (pc := 171) hV 1 dX12_findPrices_171 rfl ?_
          refine zr_isub (pc := 172) hV dX12_findPrices_172 ?_
          refine zr_iald (pc := 173) hV dX12_findPrices_173 rfl (by decide) rfl (by omega) ?_
          have t12 := zx_ga31 hσ_7 ((σ_7 0 37) - 1)
          exact zr_iret (pc := 174) hV dX12_findPrices_174 rfl rfl ⟨_, rfl, (by omega), hσ_7, hFσ_7, trivial, (show 0 ≤ (σ_7 31 ((σ_7 0 37) - 1)) → zx_FP σ_7 from (fun h => ⟨fun h2 => absurd h2 (by omega), fun _ => ⟨h, by rw [zx_ps_lm (fun a i h1 h2 => hFσ_7 a i ⟨h1, h2⟩), hFσ_7 0 3 (by omega), ← pr1.2.2.2, show σ_7 0 37 = x2_7 by omega]; exact hi7_0⟩⟩))⟩
        · show V 136 [some (ZR 0), some (ZI r1), some (ZI x2_7), none, none] [] 41 σ_7
          refine zr_aload_n (pc := 136) hV dX12_findPrices_136 rfl rfl ?_
          refine zr_getR (pc := 137) hV 52 32 dX12_findPrices_137 fX12_120 rfl rfl rfl (by decide) (zx_g52 hσ_7) (by omega) ?_
          refine zr_aload_n (pc := 140) hV dX12_findPrices_140 rfl rfl ?_
          refine zr_getI (pc := 141) hV 37 dX12_findPrices_141 fX12_422 rfl rfl rfl (by decide) ?_
          have t13 := zx_g37 hσ_7
          have t14 : σ_7 0 37 = σ 0 37 := hFσ_7 _ _ (by omega)
          refine zr_iconst (pc := 144) hV 1 dX12_findPrices_144 rfl ?_
          refine zr_isub (pc := 145) hV dX12_findPrices_145 ?_
          refine zr_iload_n (pc := 146) hV dX12_findPrices_146 rfl rfl ?_
          refine zr_iast (pc := 147) hV dX12_findPrices_147 rfl (by decide) rfl (by omega) (fun σ147 eσ147 => ?_)
          have hσ147 : zx_T σ147 := zx_ua32 eσ147 hσ_7 (by omega)
          have hFσ147 : ∀ a i : Int, (a ≠ 31 ∧ a ≠ 32) → σ147 a i = σ a i := fun a i h => by rw [eσ147, zq_up_ne (fun q => h.2 q.1)]; exact hFσ_7 a i h
          refine zr_iload_n (pc := 148) hV dX12_findPrices_148 rfl rfl ?_
          refine zr_if_ge (pc := 149) hV 156 dX12_findPrices_149 (by decide) (by omega) (fun c15 => ?_) (fun c15 => ?_)
          · show V 156 [some (ZR 0), some (ZI r1), some (ZI x2_7), none, none] [] 41 σ147
            refine zr_aload_n (pc := 156) hV dX12_findPrices_156 rfl rfl ?_
            refine zr_getR (pc := 157) hV 10 7 dX12_findPrices_157 fX12_38 rfl rfl rfl (by decide) (zx_g10 hσ147) (by omega) ?_
            refine zr_iload_n (pc := 160) hV dX12_findPrices_160 rfl rfl ?_
            refine zr_iald (pc := 161) hV dX12_findPrices_161 rfl (by decide) rfl (by omega) ?_
            have t16 := zx_ga7 hσ147 r1
            have t17 : σ147 7 r1 = σ_7 7 r1 := by rw [eσ147]; exact zq_up_ne (by omega)
            have t18 : σ_7 7 r1 = σ 7 r1 := hFσ_7 _ _ (by omega)
            show V 162 [some (ZR 0), some (ZI r1), some (ZI x2_7), none, none] [ZI (σ147 7 r1)] 41 σ147
            exact zr_iret (pc := 162) hV dX12_findPrices_162 rfl rfl ⟨_, rfl, (by omega), hσ147, hFσ147, trivial, (show 0 ≤ (σ147 7 r1) → zx_FP σ147 from (fun _ => ⟨fun _ => by rw [show σ147 0 37 = σ_7 0 37 by rw [eσ147, zq_up_ne (by omega)], show σ147 32 (σ_7 0 37 - 1) = r1 by rw [eσ147, zq_up_same], show σ147 0 3 = σ_7 0 3 by rw [eσ147, zq_up_ne (by omega)], hFσ_7 0 3 (by omega)]; omega, fun h => absurd (by rw [eσ147, zq_up_ne (by omega), zq_up_ne (by omega)]; omega) h⟩))⟩
          · show V 152 [some (ZR 0), some (ZI r1), some (ZI x2_7), none, none] [] 41 σ147
            refine zr_iconst (pc := 152) hV (-1) dX12_findPrices_152 rfl ?_
            refine zr_goto (pc := 153) hV 162 dX12_findPrices_153 (by decide) ?_
            show V 162 [some (ZR 0), some (ZI r1), some (ZI x2_7), none, none] [ZI (-1)] 41 σ147
            exact zr_iret (pc := 162) hV dX12_findPrices_162 rfl rfl ⟨_, rfl, ⟨by decide, by decide⟩, hσ147, hFσ147, trivial, (show 0 ≤ ((-1) : Int) → zx_FP σ147 from (fun h => absurd h (by decide)))⟩
      · show V 15 [some (ZR 0), some (ZI r1), some (ZI x2_7), none, none] [] 41 σ_7
        have l7 : zx_Lt σ_7 := zx_Lt_fr (fun a i h1 h2 => hFσ_7 a i ⟨h1, h2⟩) q1
        refine zr_aload_n (pc := 15) hV dX12_findPrices_15 rfl rfl ?_
        refine zr_getR (pc := 16) hV 51 31 dX12_findPrices_16 fX12_117 rfl rfl rfl (by decide) (zx_g51 hσ_7) (by omega) ?_
        refine zr_iload_n (pc := 19) hV dX12_findPrices_19 rfl rfl ?_
        refine zr_aload_n (pc := 20) hV dX12_findPrices_20 rfl rfl ?_
        refine zr_getR (pc := 21) hV 38 21 dX12_findPrices_21 fX12_87 rfl rfl rfl (by decide) (zx_g38 hσ_7) (by omega) ?_
        refine zr_iload_n (pc := 24) hV dX12_findPrices_24 rfl rfl ?_
        refine zr_iald (pc := 25) hV dX12_findPrices_25 rfl (by decide) rfl (by omega) ?_
        have t19 := zx_ga21 hσ_7 x2_7
        have t20 : σ_7 21 x2_7 = σ 21 x2_7 := hFσ_7 _ _ (by omega)
        have J34 : ∀ (v0_34 : Int), ((-1) ≤ v0_34 ∧ v0_34 ≤ 0) → ((v0_34 = 0 ∧ σ_7 21 x2_7 = 0) ∨ v0_34 = -1) → V 34 [some (ZR 0), some (ZI r1), some (ZI x2_7), none, none] [ZI v0_34, ZI x2_7, ZR 31] 41 σ_7 := by
          intro v0_34 hv0_34 hi34_0
          show V 34 [some (ZR 0), some (ZI r1), some (ZI x2_7), none, none] [ZI v0_34, ZI x2_7, ZR 31] 41 σ_7
          refine zr_iast (pc := 34) hV dX12_findPrices_34 rfl (by decide) rfl (by omega) (fun σ34 eσ34 => ?_)
          have hσ34 : zx_T σ34 := zx_ua31 eσ34 hσ_7 (by omega)
          have hFσ34 : ∀ a i : Int, (a ≠ 31 ∧ a ≠ 32) → σ34 a i = σ a i := fun a i h => by rw [eσ34, zq_up_ne (fun q => h.1 q.1)]; exact hFσ_7 a i h
          refine zr_aload_n (pc := 35) hV dX12_findPrices_35 rfl rfl ?_
          refine zr_getR (pc := 36) hV 52 32 dX12_findPrices_36 fX12_120 rfl rfl rfl (by decide) (zx_g52 hσ34) (by omega) ?_
          refine zr_iload_n (pc := 39) hV dX12_findPrices_39 rfl rfl ?_
          refine zr_iconst (pc := 40) hV (-1) dX12_findPrices_40 rfl ?_
          refine zr_iast (pc := 41) hV dX12_findPrices_41 rfl (by decide) rfl (by omega) (fun σ41 eσ41 => ?_)
          have hσ41 : zx_T σ41 := zx_ua32 eσ41 hσ34 (by omega)
          have hFσ41 : ∀ a i : Int, (a ≠ 31 ∧ a ≠ 32) → σ41 a i = σ a i := fun a i h => by rw [eσ41, zq_up_ne (fun q => h.2 q.1)]; exact hFσ34 a i h
          have e1 : σ41 31 x2_7 = v0_34 := by rw [eσ41, zq_up_ne (by omega), eσ34, zq_up_same]
          have e2 : σ41 21 x2_7 = σ_7 21 x2_7 := by rw [eσ41, zq_up_ne (by omega), eσ34, zq_up_ne (by omega)]
          have g41 : zx_PR σ41 r1 (x2_7 + 1) := zx_PR_w (σ := σ_7) hσ_7 l7 (by omega) (fun a i h1 h2 => by rw [eσ41, zq_up_ne (by omega), eσ34, zq_up_ne (by omega)]) (fun i h => by rw [eσ41, zq_up_ne (by omega), eσ34, zq_up_ne (by omega)]) (fun i h => by rw [eσ41, zq_up_ne (by omega), eσ34, zq_up_ne (by omega)]) hi7_0 (fun h1 h2 => by exfalso; omega)
          refine zr_iconst (pc := 42) hV 0 dX12_findPrices_42 rfl ?_
          refine zr_istore_n (pc := 43) hV [some (ZR 0), some (ZI r1), some (ZI x2_7), some (ZI 0), none] dX12_findPrices_43 rfl (by decide) rfl rfl ?_
          have L44 : ∀ (fuel : Nat) (x3_44 : Int) (σ_44 : zq_S), (0 ≤ x3_44 ∧ x3_44 ≤ 20) → (zx_T σ_44) → (∀ a i : Int, (a ≠ 31 ∧ a ≠ 32) → σ_44 a i = σ a i) → (zx_PR σ_44 r1 (x2_7 + 1)) → 20 - x3_44 < (fuel : Int) → V 44 [some (ZR 0), some (ZI r1), some (ZI x2_7), some (ZI x3_44), none] [] 41 σ_44 := by
            intro fuel
            induction fuel with
            | zero =>
              intro x3_44 σ_44 hx3_44 hσ_44 hFσ_44 hi44_0 hm44
              exfalso; omega
            | succ fuel ih =>
              intro x3_44 σ_44 hx3_44 hσ_44 hFσ_44 hi44_0 hm44
              have ih44 := ih
              show V 44 [some (ZR 0), some (ZI r1), some (ZI x2_7), some (ZI x3_44), none] [] 41 σ_44
              refine zr_iload_n (pc := 44) hV dX12_findPrices_44 rfl rfl ?_
              refine zr_aload_n (pc := 45) hV dX12_findPrices_45 rfl rfl ?_
              refine zr_getI (pc := 46) hV 3 dX12_findPrices_46 fX12_150 rfl rfl rfl (by decide) ?_
              have t21 := zx_g3 hσ_44
              have t22 : σ_44 0 3 = σ 0 3 := hFσ_44 _ _ (by omega)
              refine zr_icmp_ge (pc := 49) hV 116 dX12_findPrices_49 (by decide) (by omega) (by omega) (fun c23 => ?_) (fun c23 => ?_)
              · show V 116 [some (ZR 0), some (ZI r1), some (ZI x2_7), some (ZI x3_44), none] [] 41 σ_44
                refine zr_iinc (pc := 116) hV [some (ZR 0), some (ZI r1), some (ZI (x2_7 + 1)), some (ZI x3_44), none] (x2_7 + 1) dX12_findPrices_116 rfl rfl (by decide) rfl rfl ?_
                refine zr_goto (pc := 119) hV 7 dX12_findPrices_119 (by decide) ?_
                have t24 := zx_g37 hσ_44
                have t25 : σ_44 0 37 = σ 0 37 := hFσ_44 _ _ (by omega)
                refine zr_sub (pc := 7) hV [some (ZR 0), some (ZI r1), some (ZI (x2_7 + 1)), none, none] (⟨rfl, rfl, rfl, trivial⟩) ?_
                exact ih7 (x2_7 + 1) σ_44 (by omega) hσ_44 hFσ_44 hi44_0 (by omega) (by omega)
              · show V 52 [some (ZR 0), some (ZI r1), some (ZI x2_7), some (ZI x3_44), none] [] 41 σ_44
                refine zr_aload_n (pc := 52) hV dX12_findPrices_52 rfl rfl ?_
                refine zr_getR (pc := 53) hV 38 21 dX12_findPrices_53 fX12_87 rfl rfl rfl (by decide) (zx_g38 hσ_44) (by omega) ?_
                refine zr_iload_n (pc := 56) hV dX12_findPrices_56 rfl rfl ?_
                refine zr_iald (pc := 57) hV dX12_findPrices_57 rfl (by decide) rfl (by omega) ?_
                have t26 := zx_ga21 hσ_44 x2_7
                have t27 : σ_44 21 x2_7 = σ 21 x2_7 := hFσ_44 _ _ (by omega)
                refine zr_if_le (pc := 58) hV 116 dX12_findPrices_58 (by decide) (by omega) (fun c28 => ?_) (fun c28 => ?_)
                · show V 116 [some (ZR 0), some (ZI r1), some (ZI x2_7), some (ZI x3_44), none] [] 41 σ_44
                  refine zr_iinc (pc := 116) hV [some (ZR 0), some (ZI r1), some (ZI (x2_7 + 1)), some (ZI x3_44), none] (x2_7 + 1) dX12_findPrices_116 rfl rfl (by decide) rfl rfl ?_
                  refine zr_goto (pc := 119) hV 7 dX12_findPrices_119 (by decide) ?_
                  have t29 := zx_g37 hσ_44
                  have t30 : σ_44 0 37 = σ 0 37 := hFσ_44 _ _ (by omega)
                  refine zr_sub (pc := 7) hV [some (ZR 0), some (ZI r1), some (ZI (x2_7 + 1)), none, none] (⟨rfl, rfl, rfl, trivial⟩) ?_
                  exact ih7 (x2_7 + 1) σ_44 (by omega) hσ_44 hFσ_44 hi44_0 (by omega) (by omega)
                · show V 61 [some (ZR 0), some (ZI r1), some (ZI x2_7), some (ZI x3_44), none] [] 41 σ_44
                  refine zr_aload_n (pc := 61) hV dX12_findPrices_61 rfl rfl ?_
                  refine zr_iload_n (pc := 62) hV dX12_findPrices_62 rfl rfl ?_
                  refine zr_iload_n (pc := 63) hV dX12_findPrices_63 rfl rfl ?_
                  refine zr_iload_n (pc := 64) hV dX12_findPrices_64 rfl rfl ?_
                  refine zr_callVp (pc := 65) hV [ZI x3_44, ZI x2_7, ZI r1] (st := []) (c_X12_costBy (σ := σ_44) hσ_44 x3_44 x2_7 r1 (by omega) (by omega) (by omega)) dX12_findPrices_65 mX12_437 rfl (by decide) (by decide) (Nat.le_of_ble_eq_true rfl) (Nat.le_refl _) (fun r65 hr65 pr65 => ?_)
                  refine zr_istore (pc := 68) hV [some (ZR 0), some (ZI r1), some (ZI x2_7), some (ZI x3_44), some (ZI r65)] dX12_findPrices_68 (by decide) rfl rfl ?_
                  refine zr_iload (pc := 70) hV dX12_findPrices_70 rfl ?_
                  refine zr_if_lt (pc := 72) hV 110 dX12_findPrices_72 (by decide) (by omega) (fun c31 => ?_) (fun c31 => ?_)
                  · show V 110 [some (ZR 0), some (ZI r1), some (ZI x2_7), some (ZI x3_44), some (ZI r65)] [] 41 σ_44
                    refine zr_iinc (pc := 110) hV [some (ZR 0), some (ZI r1), some (ZI x2_7), some (ZI (x3_44 + 1)), some (ZI r65)] (x3_44 + 1) dX12_findPrices_110 rfl rfl (by decide) rfl rfl ?_
                    refine zr_goto (pc := 113) hV 44 dX12_findPrices_113 (by decide) ?_
                    refine zr_sub (pc := 44) hV [some (ZR 0), some (ZI r1), some (ZI x2_7), some (ZI (x3_44 + 1)), none] (⟨rfl, rfl, rfl, rfl, trivial⟩) ?_
                    exact ih44 (x3_44 + 1) σ_44 (by omega) hσ_44 hFσ_44 hi44_0 (by omega)
                  · show V 75 [some (ZR 0), some (ZI r1), some (ZI x2_7), some (ZI x3_44), some (ZI r65)] [] 41 σ_44
                    refine zr_aload_n (pc := 75) hV dX12_findPrices_75 rfl rfl ?_
                    refine zr_getR (pc := 76) hV 51 31 dX12_findPrices_76 fX12_117 rfl rfl rfl (by decide) (zx_g51 hσ_44) (by omega) ?_
                    refine zr_iload_n (pc := 79) hV dX12_findPrices_79 rfl rfl ?_
                    refine zr_iald (pc := 80) hV dX12_findPrices_80 rfl (by decide) rfl (by omega) ?_
                    have t32 := zx_ga31 hσ_44 x2_7
                    refine zr_if_lt (pc := 81) hV 95 dX12_findPrices_81 (by decide) (by omega) (fun c33 => ?_) (fun c33 => ?_)
                    · show V 95 [some (ZR 0), some (ZI r1), some (ZI x2_7), some (ZI x3_44), some (ZI r65)] [] 41 σ_44
                      refine zr_aload_n (pc := 95) hV dX12_findPrices_95 rfl rfl ?_
                      refine zr_getR (pc := 96) hV 51 31 dX12_findPrices_96 fX12_117 rfl rfl rfl (by decide) (zx_g51 hσ_44) (by omega) ?_
                      refine zr_iload_n (pc := 99) hV dX12_findPrices_99 rfl rfl ?_
                      refine zr_iload (pc := 100) hV dX12_findPrices_100 rfl ?_
                      refine zr_iast (pc := 102) hV dX12_findPrices_102 rfl (by decide) rfl (by omega) (fun σ102 eσ102 => ?_)
                      have hσ102 : zx_T σ102 := zx_ua31 eσ102 hσ_44 (by omega)
                      have hFσ102 : ∀ a i : Int, (a ≠ 31 ∧ a ≠ 32) → σ102 a i = σ a i := fun a i h => by rw [eσ102, zq_up_ne (fun q => h.1 q.1)]; exact hFσ_44 a i h
                      refine zr_aload_n (pc := 103) hV dX12_findPrices_103 rfl rfl ?_
                      refine zr_getR (pc := 104) hV 52 32 dX12_findPrices_104 fX12_120 rfl rfl rfl (by decide) (zx_g52 hσ102) (by omega) ?_
                      refine zr_iload_n (pc := 107) hV dX12_findPrices_107 rfl rfl ?_
                      refine zr_iload_n (pc := 108) hV dX12_findPrices_108 rfl rfl ?_
                      refine zr_iast (pc := 109) hV dX12_findPrices_109 rfl (by decide) rfl (by omega) (fun σ109 eσ109 => ?_)
                      have hσ109 : zx_T σ109 := zx_ua32 eσ109 hσ102 (by omega)
                      have hFσ109 : ∀ a i : Int, (a ≠ 31 ∧ a ≠ 32) → σ109 a i = σ a i := fun a i h => by rw [eσ109, zq_up_ne (fun q => h.2 q.1)]; exact hFσ102 a i h
                      show V 110 [some (ZR 0), some (ZI r1), some (ZI x2_7), some (ZI x3_44), some (ZI r65)] [] 41 σ109
                      have l44 : zx_Lt σ_44 := zx_Lt_fr (fun a i h1 h2 => hFσ_44 a i ⟨h1, h2⟩) q1
                      have w44 := hFσ_44 0 37 (by omega)
                      have g109 : zx_PR σ109 r1 (x2_7 + 1) := zx_PR_w (σ := σ_44) hσ_44 l44 (by omega) (fun a i h1 h2 => by rw [eσ109, zq_up_ne (by omega), eσ102, zq_up_ne (by omega)]) (fun i h => by rw [eσ109, zq_up_ne (by omega), eσ102, zq_up_ne (by omega)]) (fun i h => by rw [eσ109, zq_up_ne (by omega), eσ102, zq_up_ne (by omega)]) (fun j h1 h2 => hi44_0 j h1 (by omega)) (zx_P1_new (σ := σ_44) (o := x3_44) hσ_44 l44 (by omega) (fun a i h1 h2 => by rw [eσ109, zq_up_ne (by omega), eσ102, zq_up_ne (by omega)]) (fun i h => by rw [eσ109, zq_up_ne (by omega), eσ102, zq_up_ne (by omega)]) (by rw [eσ109, zq_up_same]) (by omega) (by omega) (pr65.2 (by omega)))
                      refine zr_iinc (pc := 110) hV [some (ZR 0), some (ZI r1), some (ZI x2_7), some (ZI (x3_44 + 1)), some (ZI r65)] (x3_44 + 1) dX12_findPrices_110 rfl rfl (by decide) rfl rfl ?_
                      refine zr_goto (pc := 113) hV 44 dX12_findPrices_113 (by decide) ?_
                      refine zr_sub (pc := 44) hV [some (ZR 0), some (ZI r1), some (ZI x2_7), some (ZI (x3_44 + 1)), none] (⟨rfl, rfl, rfl, rfl, trivial⟩) ?_
                      exact ih44 (x3_44 + 1) σ109 (by omega) hσ109 hFσ109 g109 (by omega)
                    · show V 84 [some (ZR 0), some (ZI r1), some (ZI x2_7), some (ZI x3_44), some (ZI r65)] [] 41 σ_44
                      refine zr_iload (pc := 84) hV dX12_findPrices_84 rfl ?_
                      refine zr_aload_n (pc := 86) hV dX12_findPrices_86 rfl rfl ?_
                      refine zr_getR (pc := 87) hV 51 31 dX12_findPrices_87 fX12_117 rfl rfl rfl (by decide) (zx_g51 hσ_44) (by omega) ?_
                      refine zr_iload_n (pc := 90) hV dX12_findPrices_90 rfl rfl ?_
                      refine zr_iald (pc := 91) hV dX12_findPrices_91 rfl (by decide) rfl (by omega) ?_
                      have t34 := zx_ga31 hσ_44 x2_7
                      refine zr_icmp_ge (pc := 92) hV 110 dX12_findPrices_92 (by decide) (by omega) (by omega) (fun c35 => ?_) (fun c35 => ?_)
                      · show V 110 [some (ZR 0), some (ZI r1), some (ZI x2_7), some (ZI x3_44), some (ZI r65)] [] 41 σ_44
                        refine zr_iinc (pc := 110) hV [some (ZR 0), some (ZI r1), some (ZI x2_7), some (ZI (x3_44 + 1)), some (ZI r65)] (x3_44 + 1) dX12_findPrices_110 rfl rfl (by decide) rfl rfl ?_
                        refine zr_goto (pc := 113) hV 44 dX12_findPrices_113 (by decide) ?_
                        refine zr_sub (pc := 44) hV [some (ZR 0), some (ZI r1), some (ZI x2_7), some (ZI (x3_44 + 1)), none] (⟨rfl, rfl, rfl, rfl, trivial⟩) ?_
                        exact ih44 (x3_44 + 1) σ_44 (by omega) hσ_44 hFσ_44 hi44_0 (by omega)
                      · show V 95 [some (ZR 0), some (ZI r1), some (ZI x2_7), some (ZI x3_44), some (ZI r65)] [] 41 σ_44
                        refine zr_aload_n (pc := 95) hV dX12_findPrices_95 rfl rfl ?_
                        refine zr_getR (pc := 96) hV 51 31 dX12_findPrices_96 fX12_117 rfl rfl rfl (by decide) (zx_g51 hσ_44) (by omega) ?_
                        refine zr_iload_n (pc := 99) hV dX12_findPrices_99 rfl rfl ?_
                        refine zr_iload (pc := 100) hV dX12_findPrices_100 rfl ?_
                        refine zr_iast (pc := 102) hV dX12_findPrices_102 rfl (by decide) rfl (by omega) (fun σ102 eσ102 => ?_)
                        have hσ102 : zx_T σ102 := zx_ua31 eσ102 hσ_44 (by omega)
                        have hFσ102 : ∀ a i : Int, (a ≠ 31 ∧ a ≠ 32) → σ102 a i = σ a i := fun a i h => by rw [eσ102, zq_up_ne (fun q => h.1 q.1)]; exact hFσ_44 a i h
                        refine zr_aload_n (pc := 103) hV dX12_findPrices_103 rfl rfl ?_
                        refine zr_getR (pc := 104) hV 52 32 dX12_findPrices_104 fX12_120 rfl rfl rfl (by decide) (zx_g52 hσ102) (by omega) ?_
                        refine zr_iload_n (pc := 107) hV dX12_findPrices_107 rfl rfl ?_
                        refine zr_iload_n (pc := 108) hV dX12_findPrices_108 rfl rfl ?_
                        refine zr_iast (pc := 109) hV dX12_findPrices_109 rfl (by decide) rfl (by omega) (fun σ109 eσ109 => ?_)
                        have hσ109 : zx_T σ109 := zx_ua32 eσ109 hσ102 (by omega)
                        have hFσ109 : ∀ a i : Int, (a ≠ 31 ∧ a ≠ 32) → σ109 a i = σ a i := fun a i h => by rw [eσ109, zq_up_ne (fun q => h.2 q.1)]; exact hFσ102 a i h
                        show V 110 [some (ZR 0), some (ZI r1), some (ZI x2_7), some (ZI x3_44), some (ZI r65)] [] 41 σ109
                        have l44 : zx_Lt σ_44 := zx_Lt_fr (fun a i h1 h2 => hFσ_44 a i ⟨h1, h2⟩) q1
                        have w44 := hFσ_44 0 37 (by omega)
                        have g109 : zx_PR σ109 r1 (x2_7 + 1) := zx_PR_w (σ := σ_44) hσ_44 l44 (by omega) (fun a i h1 h2 => by rw [eσ109, zq_up_ne (by omega), eσ102, zq_up_ne (by omega)]) (fun i h => by rw [eσ109, zq_up_ne (by omega), eσ102, zq_up_ne (by omega)]) (fun i h => by rw [eσ109, zq_up_ne (by omega), eσ102, zq_up_ne (by omega)]) (fun j h1 h2 => hi44_0 j h1 (by omega)) (zx_P1_new (σ := σ_44) (o := x3_44) hσ_44 l44 (by omega) (fun a i h1 h2 => by rw [eσ109, zq_up_ne (by omega), eσ102, zq_up_ne (by omega)]) (fun i h => by rw [eσ109, zq_up_ne (by omega), eσ102, zq_up_ne (by omega)]) (by rw [eσ109, zq_up_same]) (by omega) (by omega) (pr65.2 (by omega)))
                        refine zr_iinc (pc := 110) hV [some (ZR 0), some (ZI r1), some (ZI x2_7), some (ZI (x3_44 + 1)), some (ZI r65)] (x3_44 + 1) dX12_findPrices_110 rfl rfl (by decide) rfl rfl ?_
                        refine zr_goto (pc := 113) hV 44 dX12_findPrices_113 (by decide) ?_
                        refine zr_sub (pc := 44) hV [some (ZR 0), some (ZI r1), some (ZI x2_7), some (ZI (x3_44 + 1)), none] (⟨rfl, rfl, rfl, rfl, trivial⟩) ?_
                        exact ih44 (x3_44 + 1) σ109 (by omega) hσ109 hFσ109 g109 (by omega)
          exact L44 (20 - (0 : Int) + 1 : Int).toNat 0 σ41 (by omega) hσ41 hFσ41 g41 (by omega)
        refine zr_if_ne (pc := 26) hV 33 dX12_findPrices_26 (by decide) (by omega) (fun c36 => ?_) (fun c36 => ?_)
        · show V 33 [some (ZR 0), some (ZI r1), some (ZI x2_7), none, none] [ZI x2_7, ZR 31] 41 σ_7
          refine zr_iconst (pc := 33) hV (-1) dX12_findPrices_33 rfl ?_
          exact J34 (-1) (by omega) (by omega)
        · show V 29 [some (ZR 0), some (ZI r1), some (ZI x2_7), none, none] [ZI x2_7, ZR 31] 41 σ_7
          refine zr_iconst (pc := 29) hV 0 dX12_findPrices_29 rfl ?_
          refine zr_goto (pc := 30) hV 34 dX12_findPrices_30 (by decide) ?_
          exact J34 0 (by omega) (by omega)
  have t37 := zx_g37 hσ
  exact L7 (39 - (0 : Int) + 1 : Int).toNat 0 σ (by omega) hσ (fun a i _ => rfl) (fun j h1 h2 => absurd h2 (by omega)) (by omega) (by omega)
set_option maxHeartbeats 800000 in
theorem c_X12_price {σ : zq_S} (hσ : zx_T σ)  (Uσ : zx_U σ) : zq_C zx_w yX12_price cX12_price 2 (some .int) 6 146 41 41 [ZR 0] σ (zq_pi (fun r τ => zx_T τ ∧ (∀ a i : Int, (a ≠ 31 ∧ a ≠ 32) → τ a i = σ a i) ∧ (True) ∧ zx_U τ)) := by
  refine zq_C_of (by decide) (Nat.le_refl _) (Nat.le_of_ble_eq_true rfl) [some (ZR 0), none] rfl (fun V hV => ?_)
  show V 0 [some (ZR 0), none] [] 41 σ
  refine zr_aload_n (pc := 0) hV dX12_price_0 rfl rfl ?_
  refine zr_getI (pc := 1) hV 36 dX12_price_1 fX12_160 rfl rfl rfl (by decide) ?_
  have t1 := zx_g36 hσ
  refine zr_if_ne (pc := 4) hV 10 dX12_price_4 (by decide) (by omega) (fun c2 => ?_) (fun c2 => ?_)
  · show V 10 [some (ZR 0), none] [] 41 σ
    refine zr_aload_n (pc := 10) hV dX12_price_10 rfl rfl ?_
    have u1 := (Uσ (by omega)).1
    have t3 := zx_g37 hσ
    refine zr_callVi (pc := 11) hV [] (st := []) (c_X12_findPrices (σ := σ) hσ (by omega) (by obtain ⟨f, hf⟩ := (Uσ (by omega)).2; exact zx_Lt_of hf)) dX12_price_11 mX12_440 rfl (by decide) (by decide) (Nat.le_of_ble_eq_true rfl) (Nat.le_refl _) (fun r11 σ11 hr11 pσ11 => ?_)
    obtain ⟨hσ11, hfσ11, pσ11, wσ11⟩ := pσ11
    have Uσ11 : zx_U σ11 := zx_U_fr (hfσ11 0 36 (by omega)) (hfσ11 0 37 (by omega)) (fun i => hfσ11 21 i (by omega)) (fun i => hfσ11 23 i (by omega)) (fun i => hfσ11 24 i (by omega)) Uσ
    have hFσ11 : ∀ a i : Int, (a ≠ 31 ∧ a ≠ 32) → σ11 a i = σ a i := fun a i h => (hfσ11 a i ⟨h.1, h.2⟩)
    refine zr_istore_n (pc := 14) hV [some (ZR 0), some (ZI r11)] dX12_price_14 rfl (by decide) rfl rfl ?_
    refine zr_iload_n (pc := 15) hV dX12_price_15 rfl rfl ?_
    refine zr_if_ge (pc := 16) hV 24 dX12_price_16 (by decide) (by omega) (fun c4 => ?_) (fun c4 => ?_)
    · show V 24 [some (ZR 0), some (ZI r11)] [] 41 σ11
      refine zr_iload_n (pc := 24) hV dX12_price_24 rfl rfl ?_
      show V 25 [some (ZR 0), some (ZI r11)] [ZI r11] 41 σ11
      exact zr_iret (pc := 25) hV dX12_price_25 rfl rfl ⟨_, rfl, (by omega), hσ11, hFσ11, trivial, Uσ11⟩
    · show V 19 [some (ZR 0), some (ZI r11)] [] 41 σ11
      refine zr_bipush (pc := 19) hV (-4) dX12_price_19 (by decide) ?_
      refine zr_goto (pc := 21) hV 25 dX12_price_21 (by decide) ?_
      show V 25 [some (ZR 0), some (ZI r11)] [ZI (-4)] 41 σ11
      exact zr_iret (pc := 25) hV dX12_price_25 rfl rfl ⟨_, rfl, ⟨by decide, by decide⟩, hσ11, hFσ11, trivial, Uσ11⟩
  · show V 7 [some (ZR 0), none] [] 41 σ
    refine zr_bipush (pc := 7) hV (-2) dX12_price_7 (by decide) ?_
    exact zr_iret (pc := 9) hV dX12_price_9 rfl rfl ⟨_, rfl, ⟨by decide, by decide⟩, hσ, (fun a i _ => rfl), trivial, Uσ⟩
