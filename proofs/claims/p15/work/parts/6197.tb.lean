set_option maxHeartbeats 800000 in
theorem c_X12_readLook3 {σ : zq_S} (hσ : zx_T σ) (o : Int) (q0 : 0 ≤ o ∧ o ≤ 20) : zq_C zx_w yX12_readLook cX12_readLook 5 (some .boolean) 1 24 41 41 [ZR 0, ZI o] σ (zq_pi (fun r τ => zx_T τ ∧ (∀ a i : Int, (¬ (a = 0 ∧ i = 15) ∧ ¬ (a = 2 ∧ 12 * o ≤ i ∧ i < 12 * o + 12)) → τ a i = σ a i) ∧ (0 ≤ r ∧ r ≤ 1 ∧ τ 0 15 = zt_sk (σ 10) (σ 0 14) (zt_lp (σ 10) (σ 0 14) (σ 0 15) (zt_lr (σ 10) (σ 0 14) (σ 0 15) (σ 0 2) 0))) ∧ zq_hid ((r = 1 → (zt_lr (σ 10) (σ 0 14) (σ 0 15) (σ 0 2) 0) = σ 0 2 ∧ (∀ i, 0 ≤ i → i < σ 0 2 → τ 2 (12 * o + i) = zt_lv (σ 10) (σ 0 14) (σ 0 15) i) ∧ zt_fokr τ o (σ 0 1) (σ 0 0) ∧ zt_nx (σ 10) (σ 0 14) (zt_lp (σ 10) (σ 0 14) (σ 0 15) (σ 0 2)) = 58 ∧ zx_B τ o) ∧ (r = 0 → (zt_lr (σ 10) (σ 0 14) (σ 0 15) (σ 0 2) 0) = σ 0 2 → (∀ i, 0 ≤ i → i < σ 0 2 → τ 2 (12 * o + i) = zt_lv (σ 10) (σ 0 14) (σ 0 15) i) ∧ ¬ (zt_fokr τ o (σ 0 1) (σ 0 0) ∧ zt_nx (σ 10) (σ 0 14) (zt_lp (σ 10) (σ 0 14) (σ 0 15) (σ 0 2)) = 58))))) := by
  refine zq_C_of (by decide) (Nat.le_refl _) (Nat.le_of_ble_eq_true rfl) [some (ZR 0), some (ZI o), none, none, none] rfl (fun V hV => ?_)
  have z14 := zx_g14 hσ
  have zb2 := zx_g2 hσ
  show V 0 [some (ZR 0), some (ZI o), none, none, none] [] 41 σ
  refine zr_iconst (pc := 0) hV 0 dX12_readLook_0 rfl ?_
  refine zr_istore_n (pc := 1) hV [some (ZR 0), some (ZI o), some (ZI 0), none, none] dX12_readLook_1 rfl (by decide) rfl rfl ?_
  have L2 : ∀ (fuel : Nat) (x2_2 : Int) (σ_2 : zq_S), (0 ≤ x2_2 ∧ x2_2 ≤ 12) → (zx_T σ_2) → (∀ a i : Int, (¬ (a = 0 ∧ i = 15) ∧ ¬ (a = 2 ∧ 12 * o ≤ i ∧ i < 12 * o + 12)) → σ_2 a i = σ a i) → (x2_2 ≤ σ 0 2) → (σ_2 0 15 = zt_lp (σ 10) (σ 0 14) (σ 0 15) x2_2) → (zt_lr (σ 10) (σ 0 14) (σ 0 15) (σ 0 2) x2_2 = (zt_lr (σ 10) (σ 0 14) (σ 0 15) (σ 0 2) 0)) → (zq_hid (∀ i, 0 ≤ i → i < x2_2 → σ_2 2 (12 * o + i) = zt_lv (σ 10) (σ 0 14) (σ 0 15) i)) → 12 - x2_2 < (fuel : Int) → V 2 [some (ZR 0), some (ZI o), some (ZI x2_2), none, none] [] 41 σ_2 := by
    intro fuel
    induction fuel with
    | zero =>
      intro x2_2 σ_2 hx2_2 hσ_2 hFσ_2 hi2_0 hi2_1 hi2_2 hi2_3 hm2
      exfalso; omega
    | succ fuel ih =>
      intro x2_2 σ_2 hx2_2 hσ_2 hFσ_2 hi2_0 hi2_1 hi2_2 hi2_3 hm2
      have ih2 := ih
      show V 2 [some (ZR 0), some (ZI o), some (ZI x2_2), none, none] [] 41 σ_2
      refine zr_iload_n (pc := 2) hV dX12_readLook_2 rfl rfl ?_
      refine zr_aload_n (pc := 3) hV dX12_readLook_3 rfl rfl ?_
      refine zr_getI (pc := 4) hV 2 dX12_readLook_4 fX12_16 rfl rfl rfl (by decide) ?_
      have t1 := zx_g2 hσ_2
      have t2 : σ_2 0 2 = σ 0 2 := hFσ_2 _ _ (by omega)
      refine zr_icmp_ge (pc := 7) hV 90 dX12_readLook_7 (by decide) (by omega) (by omega) (fun c3 => ?_) (fun c3 => ?_)
      · show V 90 [some (ZR 0), some (ZI o), some (ZI x2_2), none, none] [] 41 σ_2
        refine zr_aload_n (pc := 90) hV dX12_readLook_90 rfl rfl ?_
        refine zr_iload_n (pc := 91) hV dX12_readLook_91 rfl rfl ?_
        refine zr_iconst (pc := 92) hV 3 dX12_readLook_92 rfl ?_
        refine zr_callVp (pc := 93) hV [ZI o, ZI 3] (st := []) (c_X12_fieldBits (σ := σ_2) hσ_2 o 3 (by omega) (by omega)) dX12_readLook_93 mX12_184 rfl (by decide) (by decide) (Nat.le_of_ble_eq_true rfl) (Nat.le_refl _) (fun r93 hr93 pr93 => ?_)
        have t4 := zx_g2 hσ_2
        have t5 : σ_2 0 2 = σ 0 2 := hFσ_2 _ _ (by omega)
        refine zr_aload_n (pc := 96) hV dX12_readLook_96 rfl rfl ?_
        refine zr_getI (pc := 97) hV 0 dX12_readLook_97 fX12_7 rfl rfl rfl (by decide) ?_
        have t6 := zx_g0 hσ_2
        have t7 : σ_2 0 0 = σ 0 0 := hFσ_2 _ _ (by omega)
        refine zr_icmp_gt (pc := 100) hV 107 dX12_readLook_100 (by decide) (by omega) (by omega) (fun c8 => ?_) (fun c8 => ?_)
        · show V 107 [some (ZR 0), some (ZI o), some (ZI x2_2), none, none] [] 41 σ_2
          refine zr_iconst (pc := 107) hV 0 dX12_readLook_107 rfl ?_
          show V 108 [some (ZR 0), some (ZI o), some (ZI x2_2), none, none] [ZI 0] 41 σ_2
          refine zr_istore_n (pc := 108) hV [some (ZR 0), some (ZI o), some (ZI 0), none, none] dX12_readLook_108 rfl (by decide) rfl rfl ?_
          refine zr_iconst (pc := 109) hV 0 dX12_readLook_109 rfl ?_
          refine zr_istore_n (pc := 110) hV [some (ZR 0), some (ZI o), some (ZI 0), some (ZI 0), none] dX12_readLook_110 rfl (by decide) rfl rfl ?_
          have L111 : ∀ (fuel : Nat) (x2_111 : Int) (x3_111 : Int), (0 ≤ x2_111 ∧ x2_111 ≤ 1) → (0 ≤ x3_111 ∧ x3_111 ≤ 3) → (zq_hid ((x2_111 = 1 → zx_cnt σ_2 o 3 (σ_2 0 2) ≤ σ 0 0 ∧ (∀ f, 0 ≤ f → f < x3_111 → zx_cnt σ_2 o f (σ_2 0 2) = 0 ∨ zx_cnt σ_2 o f (σ_2 0 2) = σ 0 1)) ∧ (x2_111 = 0 → ¬ (zx_cnt σ_2 o 3 (σ_2 0 2) ≤ σ 0 0 ∧ (∀ f, 0 ≤ f → f < x3_111 → zx_cnt σ_2 o f (σ_2 0 2) = 0 ∨ zx_cnt σ_2 o f (σ_2 0 2) = σ 0 1))))) → 3 - x3_111 < (fuel : Int) → V 111 [some (ZR 0), some (ZI o), some (ZI x2_111), some (ZI x3_111), none] [] 41 σ_2 := by
            intro fuel
            induction fuel with
            | zero =>
              intro x2_111 x3_111 hx2_111 hx3_111 hi111_0 hm111
              exfalso; omega
            | succ fuel ih =>
              intro x2_111 x3_111 hx2_111 hx3_111 hi111_0 hm111
              have ih111 := ih
              show V 111 [some (ZR 0), some (ZI o), some (ZI x2_111), some (ZI x3_111), none] [] 41 σ_2
              refine zr_iload_n (pc := 111) hV dX12_readLook_111 rfl rfl ?_
              refine zr_iconst (pc := 112) hV 3 dX12_readLook_112 rfl ?_
              refine zr_icmp_ge (pc := 113) hV 154 dX12_readLook_113 (by decide) (by omega) ⟨by decide, by decide⟩ (fun c9 => ?_) (fun c9 => ?_)
              · show V 154 [some (ZR 0), some (ZI o), some (ZI x2_111), some (ZI x3_111), none] [] 41 σ_2
                have fg : x2_111 = 1 → zt_fokr σ_2 o (σ 0 1) (σ 0 0) := fun h => ⟨(hi111_0.1 h).1, fun f h0 h1 => (hi111_0.1 h).2 f h0 (by omega)⟩
                have fn : x2_111 = 0 → ¬ zt_fokr σ_2 o (σ 0 1) (σ 0 0) := fun h q => hi111_0.2 h ⟨q.1, fun f h0 h1 => q.2 f h0 (by omega)⟩
                have zlr : (zt_lr (σ 10) (σ 0 14) (σ 0 15) (σ 0 2) 0) = σ 0 2 := by rw [← hi2_2, show x2_2 = σ 0 2 by omega]; exact zt_lr_n (by omega)
                refine zr_aload_n (pc := 154) hV dX12_readLook_154 rfl rfl ?_
                refine zr_callVi (pc := 155) hV [] (st := []) (c_X12_next2 (σ := σ_2) hσ_2 ) dX12_readLook_155 mX12_203 rfl (by decide) (by decide) (Nat.le_of_ble_eq_true rfl) (Nat.le_refl _) (fun r155 σ155 hr155 pσ155 => ?_)
                obtain ⟨hσ155, hfσ155, pσ155⟩ := pσ155
                have hFσ155 : ∀ a i : Int, (¬ (a = 0 ∧ i = 15) ∧ ¬ (a = 2 ∧ 12 * o ≤ i ∧ i < 12 * o + 12)) → σ155 a i = σ a i := fun a i h => (hfσ155 a i h.1).trans (hFσ_2 a i h)
                have t10 := zx_g14 hσ_2
                have t11 : σ_2 0 14 = σ 0 14 := hFσ_2 _ _ (by omega)
                have t12 := zx_g15 hσ_2
                have Tσ_2 : σ_2 10 = σ 10 := funext (fun i => hFσ_2 10 i (by omega))
                have Nσ_2 : σ_2 0 14 = σ 0 14 := hFσ_2 0 14 (by omega)
                rw [Tσ_2, Nσ_2] at pσ155
                have t13 := zx_g15 hσ155
                rw [hi2_1] at pσ155
                refine zr_istore_n (pc := 158) hV [some (ZR 0), some (ZI o), some (ZI x2_111), some (ZI r155), none] dX12_readLook_158 rfl (by decide) rfl rfl ?_
                refine zr_iload_n (pc := 159) hV dX12_readLook_159 rfl rfl ?_
                refine zr_if_eq (pc := 160) hV 173 dX12_readLook_160 (by decide) (by omega) (fun c14 => ?_) (fun c14 => ?_)
                · show V 173 [some (ZR 0), some (ZI o), some (ZI x2_111), some (ZI r155), none] [] 41 σ155
                  refine zr_iconst (pc := 173) hV 0 dX12_readLook_173 rfl ?_
                  show V 174 [some (ZR 0), some (ZI o), some (ZI x2_111), some (ZI r155), none] [ZI 0] 41 σ155
                  have t15 := zx_g15 hσ155
                  exact zr_zret (pc := 174) hV dX12_readLook_174 rfl rfl (by omega) ⟨_, rfl, ⟨by decide, by decide⟩, hσ155, hFσ155, ⟨by omega, by omega, by rw [zlr, show σ 0 2 = x2_2 by omega]; omega⟩, (show ((0 : Int) = 1 → (zt_lr (σ 10) (σ 0 14) (σ 0 15) (σ 0 2) 0) = σ 0 2 ∧ (∀ i, 0 ≤ i → i < σ 0 2 → σ155 2 (12 * o + i) = zt_lv (σ 10) (σ 0 14) (σ 0 15) i) ∧ zt_fokr σ155 o (σ 0 1) (σ 0 0) ∧ zt_nx (σ 10) (σ 0 14) (zt_lp (σ 10) (σ 0 14) (σ 0 15) (σ 0 2)) = 58 ∧ zx_B σ155 o) ∧ ((0 : Int) = 0 → (zt_lr (σ 10) (σ 0 14) (σ 0 15) (σ 0 2) 0) = σ 0 2 → (∀ i, 0 ≤ i → i < σ 0 2 → σ155 2 (12 * o + i) = zt_lv (σ 10) (σ 0 14) (σ 0 15) i) ∧ ¬ (zt_fokr σ155 o (σ 0 1) (σ 0 0) ∧ zt_nx (σ 10) (σ 0 14) (zt_lp (σ 10) (σ 0 14) (σ 0 15) (σ 0 2)) = 58)) from ⟨fun h => absurd h (by omega), fun _ _ => ⟨(fun i h0 h1 => by rw [hfσ155 2 _ (by omega)]; exact hi2_3 i h0 (by omega)), fun q => by have q2 := (zt_fokr_fr (fun i => hfσ155 2 i (by omega)) (hfσ155 0 2 (by omega))).mp q.1; have q3 : zt_nx (σ 10) (σ 0 14) (zt_lp (σ 10) (σ 0 14) (σ 0 15) x2_2) = 58 := (show σ 0 2 = x2_2 by omega) ▸ q.2; first | exact absurd q2 (fn (by omega)) | omega⟩⟩)⟩
                · show V 163 [some (ZR 0), some (ZI o), some (ZI x2_111), some (ZI r155), none] [] 41 σ155
                  refine zr_iload_n (pc := 163) hV dX12_readLook_163 rfl rfl ?_
                  refine zr_bipush (pc := 164) hV 58 dX12_readLook_164 (by decide) ?_
                  refine zr_icmp_ne (pc := 166) hV 173 dX12_readLook_166 (by decide) (by omega) ⟨by decide, by decide⟩ (fun c16 => ?_) (fun c16 => ?_)
                  · show V 173 [some (ZR 0), some (ZI o), some (ZI x2_111), some (ZI r155), none] [] 41 σ155
                    refine zr_iconst (pc := 173) hV 0 dX12_readLook_173 rfl ?_
                    show V 174 [some (ZR 0), some (ZI o), some (ZI x2_111), some (ZI r155), none] [ZI 0] 41 σ155
                    have t17 := zx_g15 hσ155
                    exact zr_zret (pc := 174) hV dX12_readLook_174 rfl rfl (by omega) ⟨_, rfl, ⟨by decide, by decide⟩, hσ155, hFσ155, ⟨by omega, by omega, by rw [zlr, show σ 0 2 = x2_2 by omega]; omega⟩, (show ((0 : Int) = 1 → (zt_lr (σ 10) (σ 0 14) (σ 0 15) (σ 0 2) 0) = σ 0 2 ∧ (∀ i, 0 ≤ i → i < σ 0 2 → σ155 2 (12 * o + i) = zt_lv (σ 10) (σ 0 14) (σ 0 15) i) ∧ zt_fokr σ155 o (σ 0 1) (σ 0 0) ∧ zt_nx (σ 10) (σ 0 14) (zt_lp (σ 10) (σ 0 14) (σ 0 15) (σ 0 2)) = 58 ∧ zx_B σ155 o) ∧ ((0 : Int) = 0 → (zt_lr (σ 10) (σ 0 14) (σ 0 15) (σ 0 2) 0) = σ 0 2 → (∀ i, 0 ≤ i → i < σ 0 2 → σ155 2 (12 * o + i) = zt_lv (σ 10) (σ 0 14) (σ 0 15) i) ∧ ¬ (zt_fokr σ155 o (σ 0 1) (σ 0 0) ∧ zt_nx (σ 10) (σ 0 14) (zt_lp (σ 10) (σ 0 14) (σ 0 15) (σ 0 2)) = 58)) from ⟨fun h => absurd h (by omega), fun _ _ => ⟨(fun i h0 h1 => by rw [hfσ155 2 _ (by omega)]; exact hi2_3 i h0 (by omega)), fun q => by have q2 := (zt_fokr_fr (fun i => hfσ155 2 i (by omega)) (hfσ155 0 2 (by omega))).mp q.1; have q3 : zt_nx (σ 10) (σ 0 14) (zt_lp (σ 10) (σ 0 14) (σ 0 15) x2_2) = 58 := (show σ 0 2 = x2_2 by omega) ▸ q.2; first | exact absurd q2 (fn (by omega)) | omega⟩⟩)⟩
                  · show V 169 [some (ZR 0), some (ZI o), some (ZI x2_111), some (ZI r155), none] [] 41 σ155
                    refine zr_iconst (pc := 169) hV 1 dX12_readLook_169 rfl ?_
                    refine zr_goto (pc := 170) hV 174 dX12_readLook_170 (by decide) ?_
                    show V 174 [some (ZR 0), some (ZI o), some (ZI x2_111), some (ZI r155), none] [ZI 1] 41 σ155
                    have t18 := zx_g15 hσ155
                    exact zr_zret (pc := 174) hV dX12_readLook_174 rfl rfl (by omega) ⟨_, rfl, ⟨by decide, by decide⟩, hσ155, hFσ155, ⟨by omega, by omega, by rw [zlr, show σ 0 2 = x2_2 by omega]; omega⟩, (show ((1 : Int) = 1 → (zt_lr (σ 10) (σ 0 14) (σ 0 15) (σ 0 2) 0) = σ 0 2 ∧ (∀ i, 0 ≤ i → i < σ 0 2 → σ155 2 (12 * o + i) = zt_lv (σ 10) (σ 0 14) (σ 0 15) i) ∧ zt_fokr σ155 o (σ 0 1) (σ 0 0) ∧ zt_nx (σ 10) (σ 0 14) (zt_lp (σ 10) (σ 0 14) (σ 0 15) (σ 0 2)) = 58 ∧ zx_B σ155 o) ∧ ((1 : Int) = 0 → (zt_lr (σ 10) (σ 0 14) (σ 0 15) (σ 0 2) 0) = σ 0 2 → (∀ i, 0 ≤ i → i < σ 0 2 → σ155 2 (12 * o + i) = zt_lv (σ 10) (σ 0 14) (σ 0 15) i) ∧ ¬ (zt_fokr σ155 o (σ 0 1) (σ 0 0) ∧ zt_nx (σ 10) (σ 0 14) (zt_lp (σ 10) (σ 0 14) (σ 0 15) (σ 0 2)) = 58)) from ⟨fun _ => ⟨zlr, (fun i h0 h1 => by rw [hfσ155 2 _ (by omega)]; exact hi2_3 i h0 (by omega)), (zt_fokr_fr (fun i => hfσ155 2 i (by omega)) (hfσ155 0 2 (by omega))).mpr (fg (by omega)), by rw [show σ 0 2 = x2_2 by omega]; omega, zx_B_fr (fun i => hfσ155 2 i (by omega)) (hfσ155 0 2 (by omega)) (zt_fokr_B (fg (by omega)) (by have := zx_g1 hσ; omega) (by have := zx_g0 hσ; omega))⟩, fun h => absurd h (by omega)⟩)⟩
              · show V 116 [some (ZR 0), some (ZI o), some (ZI x2_111), some (ZI x3_111), none] [] 41 σ_2
                refine zr_aload_n (pc := 116) hV dX12_readLook_116 rfl rfl ?_
                refine zr_iload_n (pc := 117) hV dX12_readLook_117 rfl rfl ?_
                refine zr_iload_n (pc := 118) hV dX12_readLook_118 rfl rfl ?_
                refine zr_callVp (pc := 119) hV [ZI o, ZI x3_111] (st := []) (c_X12_fieldBits (σ := σ_2) hσ_2 o x3_111 (by omega) (by omega)) dX12_readLook_119 mX12_184 rfl (by decide) (by decide) (Nat.le_of_ble_eq_true rfl) (Nat.le_refl _) (fun r119 hr119 pr119 => ?_)
                have t19 := zx_g2 hσ_2
                have t20 : σ_2 0 2 = σ 0 2 := hFσ_2 _ _ (by omega)
                refine zr_istore (pc := 122) hV [some (ZR 0), some (ZI o), some (ZI x2_111), some (ZI x3_111), some (ZI r119)] dX12_readLook_122 (by decide) rfl rfl ?_
                refine zr_iload_n (pc := 124) hV dX12_readLook_124 rfl rfl ?_
                refine zr_if_eq (pc := 125) hV 146 dX12_readLook_125 (by decide) (by omega) (fun c21 => ?_) (fun c21 => ?_)
                · show V 146 [some (ZR 0), some (ZI o), some (ZI x2_111), some (ZI x3_111), some (ZI r119)] [] 41 σ_2
                  refine zr_iconst (pc := 146) hV 0 dX12_readLook_146 rfl ?_
                  show V 147 [some (ZR 0), some (ZI o), some (ZI x2_111), some (ZI x3_111), some (ZI r119)] [ZI 0] 41 σ_2
                  refine zr_istore_n (pc := 147) hV [some (ZR 0), some (ZI o), some (ZI 0), some (ZI x3_111), some (ZI r119)] dX12_readLook_147 rfl (by decide) rfl rfl ?_
                  refine zr_iinc (pc := 148) hV [some (ZR 0), some (ZI o), some (ZI 0), some (ZI (x3_111 + 1)), some (ZI r119)] (x3_111 + 1) dX12_readLook_148 rfl rfl (by decide) rfl rfl ?_
                  refine zr_goto (pc := 151) hV 111 dX12_readLook_151 (by decide) ?_
                  have t22 := zx_g2 hσ_2
                  have t23 : σ_2 0 2 = σ 0 2 := hFσ_2 _ _ (by omega)
                  refine zr_sub (pc := 111) hV [some (ZR 0), some (ZI o), some (ZI 0), some (ZI (x3_111 + 1)), none] (⟨rfl, rfl, rfl, rfl, trivial⟩) ?_
                  exact ih111 0 (x3_111 + 1) (by omega) (by omega) ⟨fun h => absurd h (by omega), fun _ q => by first | exact (hi111_0.2 (by omega)) ⟨q.1, fun f h0 h1 => q.2 f h0 (by omega)⟩ | exact absurd (q.2 x3_111 (by omega) (by omega)) (by omega)⟩ (by omega)
                · show V 128 [some (ZR 0), some (ZI o), some (ZI x2_111), some (ZI x3_111), some (ZI r119)] [] 41 σ_2
                  refine zr_iload (pc := 128) hV dX12_readLook_128 rfl ?_
                  refine zr_if_eq (pc := 130) hV 142 dX12_readLook_130 (by decide) (by omega) (fun c24 => ?_) (fun c24 => ?_)
                  · show V 142 [some (ZR 0), some (ZI o), some (ZI x2_111), some (ZI x3_111), some (ZI r119)] [] 41 σ_2
                    refine zr_iconst (pc := 142) hV 1 dX12_readLook_142 rfl ?_
                    refine zr_goto (pc := 143) hV 147 dX12_readLook_143 (by decide) ?_
                    show V 147 [some (ZR 0), some (ZI o), some (ZI x2_111), some (ZI x3_111), some (ZI r119)] [ZI 1] 41 σ_2
                    refine zr_istore_n (pc := 147) hV [some (ZR 0), some (ZI o), some (ZI 1), some (ZI x3_111), some (ZI r119)] dX12_readLook_147 rfl (by decide) rfl rfl ?_
                    refine zr_iinc (pc := 148) hV [some (ZR 0), some (ZI o), some (ZI 1), some (ZI (x3_111 + 1)), some (ZI r119)] (x3_111 + 1) dX12_readLook_148 rfl rfl (by decide) rfl rfl ?_
                    refine zr_goto (pc := 151) hV 111 dX12_readLook_151 (by decide) ?_
                    have t25 := zx_g2 hσ_2
                    have t26 : σ_2 0 2 = σ 0 2 := hFσ_2 _ _ (by omega)
                    refine zr_sub (pc := 111) hV [some (ZR 0), some (ZI o), some (ZI 1), some (ZI (x3_111 + 1)), none] (⟨rfl, rfl, rfl, rfl, trivial⟩) ?_
                    exact ih111 1 (x3_111 + 1) (by omega) (by omega) ⟨fun _ => ⟨(hi111_0.1 (by omega)).1, fun f h0 h1 => if hc : f = x3_111 then (by rw [hc]; omega) else (hi111_0.1 (by omega)).2 f h0 (by omega)⟩, fun h => absurd h (by omega)⟩ (by omega)
                  · show V 133 [some (ZR 0), some (ZI o), some (ZI x2_111), some (ZI x3_111), some (ZI r119)] [] 41 σ_2
                    refine zr_iload (pc := 133) hV dX12_readLook_133 rfl ?_
                    refine zr_aload_n (pc := 135) hV dX12_readLook_135 rfl rfl ?_
                    refine zr_getI (pc := 136) hV 1 dX12_readLook_136 fX12_13 rfl rfl rfl (by decide) ?_
                    have t27 := zx_g1 hσ_2
                    have t28 : σ_2 0 1 = σ 0 1 := hFσ_2 _ _ (by omega)
                    refine zr_icmp_ne (pc := 139) hV 146 dX12_readLook_139 (by decide) (by omega) (by omega) (fun c29 => ?_) (fun c29 => ?_)
                    · show V 146 [some (ZR 0), some (ZI o), some (ZI x2_111), some (ZI x3_111), some (ZI r119)] [] 41 σ_2
                      refine zr_iconst (pc := 146) hV 0 dX12_readLook_146 rfl ?_
                      show V 147 [some (ZR 0), some (ZI o), some (ZI x2_111), some (ZI x3_111), some (ZI r119)] [ZI 0] 41 σ_2
                      refine zr_istore_n (pc := 147) hV [some (ZR 0), some (ZI o), some (ZI 0), some (ZI x3_111), some (ZI r119)] dX12_readLook_147 rfl (by decide) rfl rfl ?_
                      refine zr_iinc (pc := 148) hV [some (ZR 0), some (ZI o), some (ZI 0), some (ZI (x3_111 + 1)), some (ZI r119)] (x3_111 + 1) dX12_readLook_148 rfl rfl (by decide) rfl rfl ?_
                      refine zr_goto (pc := 151) hV 111 dX12_readLook_151 (by decide) ?_
                      have t30 := zx_g2 hσ_2
                      have t31 : σ_2 0 2 = σ 0 2 := hFσ_2 _ _ (by omega)
                      refine zr_sub (pc := 111) hV [some (ZR 0), some (ZI o), some (ZI 0), some (ZI (x3_111 + 1)), none] (⟨rfl, rfl, rfl, rfl, trivial⟩) ?_
                      exact ih111 0 (x3_111 + 1) (by omega) (by omega) ⟨fun h => absurd h (by omega), fun _ q => by first | exact (hi111_0.2 (by omega)) ⟨q.1, fun f h0 h1 => q.2 f h0 (by omega)⟩ | exact absurd (q.2 x3_111 (by omega) (by omega)) (by omega)⟩ (by omega)
                    · show V 142 [some (ZR 0), some (ZI o), some (ZI x2_111), some (ZI x3_111), some (ZI r119)] [] 41 σ_2
                      refine zr_iconst (pc := 142) hV 1 dX12_readLook_142 rfl ?_
                      refine zr_goto (pc := 143) hV 147 dX12_readLook_143 (by decide) ?_
                      show V 147 [some (ZR 0), some (ZI o), some (ZI x2_111), some (ZI x3_111), some (ZI r119)] [ZI 1] 41 σ_2
                      refine zr_istore_n (pc := 147) hV [some (ZR 0), some (ZI o), some (ZI 1), some (ZI x3_111), some (ZI r119)] dX12_readLook_147 rfl (by decide) rfl rfl ?_
                      refine zr_iinc (pc := 148) hV [some (ZR 0), some (ZI o), some (ZI 1), some (ZI (x3_111 + 1)), some (ZI r119)] (x3_111 + 1) dX12_readLook_148 rfl rfl (by decide) rfl rfl ?_
                      refine zr_goto (pc := 151) hV 111 dX12_readLook_151 (by decide) ?_
                      have t32 := zx_g2 hσ_2
                      have t33 : σ_2 0 2 = σ 0 2 := hFσ_2 _ _ (by omega)
                      refine zr_sub (pc := 111) hV [some (ZR 0), some (ZI o), some (ZI 1), some (ZI (x3_111 + 1)), none] (⟨rfl, rfl, rfl, rfl, trivial⟩) ?_
                      exact ih111 1 (x3_111 + 1) (by omega) (by omega) ⟨fun _ => ⟨(hi111_0.1 (by omega)).1, fun f h0 h1 => if hc : f = x3_111 then (by rw [hc]; omega) else (hi111_0.1 (by omega)).2 f h0 (by omega)⟩, fun h => absurd h (by omega)⟩ (by omega)
          have t34 := zx_g2 hσ_2
          have t35 : σ_2 0 2 = σ 0 2 := hFσ_2 _ _ (by omega)
          exact L111 (3 - (0 : Int) + 1 : Int).toNat 0 0 (by omega) (by omega) ⟨fun h => absurd h (by omega), fun _ q => absurd q.1 (by omega)⟩ (by omega)
        · show V 103 [some (ZR 0), some (ZI o), some (ZI x2_2), none, none] [] 41 σ_2
          refine zr_iconst (pc := 103) hV 1 dX12_readLook_103 rfl ?_
          refine zr_goto (pc := 104) hV 108 dX12_readLook_104 (by decide) ?_
          show V 108 [some (ZR 0), some (ZI o), some (ZI x2_2), none, none] [ZI 1] 41 σ_2
          refine zr_istore_n (pc := 108) hV [some (ZR 0), some (ZI o), some (ZI 1), none, none] dX12_readLook_108 rfl (by decide) rfl rfl ?_
          refine zr_iconst (pc := 109) hV 0 dX12_readLook_109 rfl ?_
          refine zr_istore_n (pc := 110) hV [some (ZR 0), some (ZI o), some (ZI 1), some (ZI 0), none] dX12_readLook_110 rfl (by decide) rfl rfl ?_
          have L111 : ∀ (fuel : Nat) (x2_111 : Int) (x3_111 : Int), (0 ≤ x2_111 ∧ x2_111 ≤ 1) → (0 ≤ x3_111 ∧ x3_111 ≤ 3) → (zq_hid ((x2_111 = 1 → zx_cnt σ_2 o 3 (σ_2 0 2) ≤ σ 0 0 ∧ (∀ f, 0 ≤ f → f < x3_111 → zx_cnt σ_2 o f (σ_2 0 2) = 0 ∨ zx_cnt σ_2 o f (σ_2 0 2) = σ 0 1)) ∧ (x2_111 = 0 → ¬ (zx_cnt σ_2 o 3 (σ_2 0 2) ≤ σ 0 0 ∧ (∀ f, 0 ≤ f → f < x3_111 → zx_cnt σ_2 o f (σ_2 0 2) = 0 ∨ zx_cnt σ_2 o f (σ_2 0 2) = σ 0 1))))) → 3 - x3_111 < (fuel : Int) → V 111 [some (ZR 0), some (ZI o), some (ZI x2_111), some (ZI x3_111), none] [] 41 σ_2 := by
            intro fuel
            induction fuel with
            | zero =>
              intro x2_111 x3_111 hx2_111 hx3_111 hi111_0 hm111
              exfalso; omega
            | succ fuel ih =>
              intro x2_111 x3_111 hx2_111 hx3_111 hi111_0 hm111
              have ih111 := ih
              show V 111 [some (ZR 0), some (ZI o), some (ZI x2_111), some (ZI x3_111), none] [] 41 σ_2
              refine zr_iload_n (pc := 111) hV dX12_readLook_111 rfl rfl ?_
              refine zr_iconst (pc := 112) hV 3 dX12_readLook_112 rfl ?_
              refine zr_icmp_ge (pc := 113) hV 154 dX12_readLook_113 (by decide) (by omega) ⟨by decide, by decide⟩ (fun c36 => ?_) (fun c36 => ?_)
              · show V 154 [some (ZR 0), some (ZI o), some (ZI x2_111), some (ZI x3_111), none] [] 41 σ_2
                have fg : x2_111 = 1 → zt_fokr σ_2 o (σ 0 1) (σ 0 0) := fun h => ⟨(hi111_0.1 h).1, fun f h0 h1 => (hi111_0.1 h).2 f h0 (by omega)⟩
                have fn : x2_111 = 0 → ¬ zt_fokr σ_2 o (σ 0 1) (σ 0 0) := fun h q => hi111_0.2 h ⟨q.1, fun f h0 h1 => q.2 f h0 (by omega)⟩
                have zlr : (zt_lr (σ 10) (σ 0 14) (σ 0 15) (σ 0 2) 0) = σ 0 2 := by rw [← hi2_2, show x2_2 = σ 0 2 by omega]; exact zt_lr_n (by omega)
                refine zr_aload_n (pc := 154) hV dX12_readLook_154 rfl rfl ?_
                refine zr_callVi (pc := 155) hV [] (st := []) (c_X12_next2 (σ := σ_2) hσ_2 ) dX12_readLook_155 mX12_203 rfl (by decide) (by decide) (Nat.le_of_ble_eq_true rfl) (Nat.le_refl _) (fun r155 σ155 hr155 pσ155 => ?_)
                obtain ⟨hσ155, hfσ155, pσ155⟩ := pσ155
                have hFσ155 : ∀ a i : Int, (¬ (a = 0 ∧ i = 15) ∧ ¬ (a = 2 ∧ 12 * o ≤ i ∧ i < 12 * o + 12)) → σ155 a i = σ a i := fun a i h => (hfσ155 a i h.1).trans (hFσ_2 a i h)
                have t37 := zx_g14 hσ_2
                have t38 : σ_2 0 14 = σ 0 14 := hFσ_2 _ _ (by omega)
                have t39 := zx_g15 hσ_2
                have Tσ_2 : σ_2 10 = σ 10 := funext (fun i => hFσ_2 10 i (by omega))
                have Nσ_2 : σ_2 0 14 = σ 0 14 := hFσ_2 0 14 (by omega)
                rw [Tσ_2, Nσ_2] at pσ155
                have t40 := zx_g15 hσ155
                rw [hi2_1] at pσ155
                refine zr_istore_n (pc := 158) hV [some (ZR 0), some (ZI o), some (ZI x2_111), some (ZI r155), none] dX12_readLook_158 rfl (by decide) rfl rfl ?_
                refine zr_iload_n (pc := 159) hV dX12_readLook_159 rfl rfl ?_
                refine zr_if_eq (pc := 160) hV 173 dX12_readLook_160 (by decide) (by omega) (fun c41 => ?_) (fun c41 => ?_)
                · show V 173 [some (ZR 0), some (ZI o), some (ZI x2_111), some (ZI r155), none] [] 41 σ155
                  refine zr_iconst (pc := 173) hV 0 dX12_readLook_173 rfl ?_
                  show V 174 [some (ZR 0), some (ZI o), some (ZI x2_111), some (ZI r155), none] [ZI 0] 41 σ155
                  have t42 := zx_g15 hσ155
                  exact zr_zret (pc := 174) hV dX12_readLook_174 rfl rfl (by omega) ⟨_, rfl, ⟨by decide, by decide⟩, hσ155, hFσ155, ⟨by omega, by omega, by rw [zlr, show σ 0 2 = x2_2 by omega]; omega⟩, (show ((0 : Int) = 1 → (zt_lr (σ 10) (σ 0 14) (σ 0 15) (σ 0 2) 0) = σ 0 2 ∧ (∀ i, 0 ≤ i → i < σ 0 2 → σ155 2 (12 * o + i) = zt_lv (σ 10) (σ 0 14) (σ 0 15) i) ∧ zt_fokr σ155 o (σ 0 1) (σ 0 0) ∧ zt_nx (σ 10) (σ 0 14) (zt_lp (σ 10) (σ 0 14) (σ 0 15) (σ 0 2)) = 58 ∧ zx_B σ155 o) ∧ ((0 : Int) = 0 → (zt_lr (σ 10) (σ 0 14) (σ 0 15) (σ 0 2) 0) = σ 0 2 → (∀ i, 0 ≤ i → i < σ 0 2 → σ155 2 (12 * o + i) = zt_lv (σ 10) (σ 0 14) (σ 0 15) i) ∧ ¬ (zt_fokr σ155 o (σ 0 1) (σ 0 0) ∧ zt_nx (σ 10) (σ 0 14) (zt_lp (σ 10) (σ 0 14) (σ 0 15) (σ 0 2)) = 58)) from ⟨fun h => absurd h (by omega), fun _ _ => ⟨(fun i h0 h1 => by rw [hfσ155 2 _ (by omega)]; exact hi2_3 i h0 (by omega)), fun q => by have q2 := (zt_fokr_fr (fun i => hfσ155 2 i (by omega)) (hfσ155 0 2 (by omega))).mp q.1; have q3 : zt_nx (σ 10) (σ 0 14) (zt_lp (σ 10) (σ 0 14) (σ 0 15) x2_2) = 58 := (show σ 0 2 = x2_2 by omega) ▸ q.2; first | exact absurd q2 (fn (by omega)) | omega⟩⟩)⟩
                · show V 163 [some (ZR 0), some (ZI o), some (ZI x2_111), some (ZI r155), none] [] 41 σ155
                  refine zr_iload_n (pc := 163) hV dX12_readLook_163 rfl rfl ?_
                  refine zr_bipush (pc := 164) hV 58 dX12_readLook_164 (by decide) ?_
                  refine zr_icmp_ne (pc := 166) hV 173 dX12_readLook_166 (by decide) (by omega) ⟨by decide, by decide⟩ (fun c43 => ?_) (fun c43 => ?_)
                  · show V 173 [some (ZR 0), some (ZI o), some (ZI x2_111), some (ZI r155), none] [] 41 σ155
                    refine zr_iconst (pc := 173) hV 0 dX12_readLook_173 rfl ?_
                    show V 174 [some (ZR 0), some (ZI o), some (ZI x2_111), some (ZI r155), none] [ZI 0] 41 σ155
                    have t44 := zx_g15 hσ155
                    exact zr_zret (pc := 174) hV dX12_readLook_174 rfl rfl (by omega) ⟨_, rfl, ⟨by decide, by decide⟩, hσ155, hFσ155, ⟨by omega, by omega, by rw [zlr, show σ 0 2 = x2_2 by omega]; omega⟩, (show ((0 : Int) = 1 → (zt_lr (σ 10) (σ 0 14) (σ 0 15) (σ 0 2) 0) = σ 0 2 ∧ (∀ i, 0 ≤ i → i < σ 0 2 → σ155 2 (12 * o + i) = zt_lv (σ 10) (σ 0 14) (σ 0 15) i) ∧ zt_fokr σ155 o (σ 0 1) (σ 0 0) ∧ zt_nx (σ 10) (σ 0 14) (zt_lp (σ 10) (σ 0 14) (σ 0 15) (σ 0 2)) = 58 ∧ zx_B σ155 o) ∧ ((0 : Int) = 0 → (zt_lr (σ 10) (σ 0 14) (σ 0 15) (σ 0 2) 0) = σ 0 2 → (∀ i, 0 ≤ i → i < σ 0 2 → σ155 2 (12 * o + i) = zt_lv (σ 10) (σ 0 14) (σ 0 15) i) ∧ ¬ (zt_fokr σ155 o (σ 0 1) (σ 0 0) ∧ zt_nx (σ 10) (σ 0 14) (zt_lp (σ 10) (σ 0 14) (σ 0 15) (σ 0 2)) = 58)) from ⟨fun h => absurd h (by omega), fun _ _ => ⟨(fun i h0 h1 => by rw [hfσ155 2 _ (by omega)]; exact hi2_3 i h0 (by omega)), fun q => by have q2 := (zt_fokr_fr (fun i => hfσ155 2 i (by omega)) (hfσ155 0 2 (by omega))).mp q.1; have q3 : zt_nx (σ 10) (σ 0 14) (zt_lp (σ 10) (σ 0 14) (σ 0 15) x2_2) = 58 := (show σ 0 2 = x2_2 by omega) ▸ q.2; first | exact absurd q2 (fn (by omega)) | omega⟩⟩)⟩
                  · show V 169 [some (ZR 0), some (ZI o), some (ZI x2_111), some (ZI r155), none] [] 41 σ155
                    refine zr_iconst (pc := 169) hV 1 dX12_readLook_169 rfl ?_
                    refine zr_goto (pc := 170) hV 174 dX12_readLook_170 (by decide) ?_
                    show V 174 [some (ZR 0), some (ZI o), some (ZI x2_111), some (ZI r155), none] [ZI 1] 41 σ155
                    have t45 := zx_g15 hσ155
                    exact zr_zret (pc := 174) hV dX12_readLook_174 rfl rfl (by omega) ⟨_, rfl, ⟨by decide, by decide⟩, hσ155, hFσ155, ⟨by omega, by omega, by rw [zlr, show σ 0 2 = x2_2 by omega]; omega⟩, (show ((1 : Int) = 1 → (zt_lr (σ 10) (σ 0 14) (σ 0 15) (σ 0 2) 0) = σ 0 2 ∧ (∀ i, 0 ≤ i → i < σ 0 2 → σ155 2 (12 * o + i) = zt_lv (σ 10) (σ 0 14) (σ 0 15) i) ∧ zt_fokr σ155 o (σ 0 1) (σ 0 0) ∧ zt_nx (σ 10) (σ 0 14) (zt_lp (σ 10) (σ 0 14) (σ 0 15) (σ 0 2)) = 58 ∧ zx_B σ155 o) ∧ ((1 : Int) = 0 → (zt_lr (σ 10) (σ 0 14) (σ 0 15) (σ 0 2) 0) = σ 0 2 → (∀ i, 0 ≤ i → i < σ 0 2 → σ155 2 (12 * o + i) = zt_lv (σ 10) (σ 0 14) (σ 0 15) i) ∧ ¬ (zt_fokr σ155 o (σ 0 1) (σ 0 0) ∧ zt_nx (σ 10) (σ 0 14) (zt_lp (σ 10) (σ 0 14) (σ 0 15) (σ 0 2)) = 58)) from ⟨fun _ => ⟨zlr, (fun i h0 h1 => by rw [hfσ155 2 _ (by omega)]; exact hi2_3 i h0 (by omega)), (zt_fokr_fr (fun i => hfσ155 2 i (by omega)) (hfσ155 0 2 (by omega))).mpr (fg (by omega)), by rw [show σ 0 2 = x2_2 by omega]; omega, zx_B_fr (fun i => hfσ155 2 i (by omega)) (hfσ155 0 2 (by omega)) (zt_fokr_B (fg (by omega)) (by have := zx_g1 hσ; omega) (by have := zx_g0 hσ; omega))⟩, fun h => absurd h (by omega)⟩)⟩
              · show V 116 [some (ZR 0), some (ZI o), some (ZI x2_111), some (ZI x3_111), none] [] 41 σ_2
                refine zr_aload_n (pc := 116) hV dX12_readLook_116 rfl rfl ?_
                refine zr_iload_n (pc := 117) hV dX12_readLook_117 rfl rfl ?_
                refine zr_iload_n (pc := 118) hV dX12_readLook_118 rfl rfl ?_
                refine zr_callVp (pc := 119) hV [ZI o, ZI x3_111] (st := []) (c_X12_fieldBits (σ := σ_2) hσ_2 o x3_111 (by omega) (by omega)) dX12_readLook_119 mX12_184 rfl (by decide) (by decide) (Nat.le_of_ble_eq_true rfl) (Nat.le_refl _) (fun r119 hr119 pr119 => ?_)
                have t46 := zx_g2 hσ_2
                have t47 : σ_2 0 2 = σ 0 2 := hFσ_2 _ _ (by omega)
                refine zr_istore (pc := 122) hV [some (ZR 0), some (ZI o), some (ZI x2_111), some (ZI x3_111), some (ZI r119)] dX12_readLook_122 (by decide) rfl rfl ?_
                refine zr_iload_n (pc := 124) hV dX12_readLook_124 rfl rfl ?_
                refine zr_if_eq (pc := 125) hV 146 dX12_readLook_125 (by decide) (by omega) (fun c48 => ?_) (fun c48 => ?_)
                · show V 146 [some (ZR 0), some (ZI o), some (ZI x2_111), some (ZI x3_111), some (ZI r119)] [] 41 σ_2
                  refine zr_iconst (pc := 146) hV 0 dX12_readLook_146 rfl ?_
                  show V 147 [some (ZR 0), some (ZI o), some (ZI x2_111), some (ZI x3_111), some (ZI r119)] [ZI 0] 41 σ_2
                  refine zr_istore_n (pc := 147) hV [some (ZR 0), some (ZI o), some (ZI 0), some (ZI x3_111), some (ZI r119)] dX12_readLook_147 rfl (by decide) rfl rfl ?_
                  refine zr_iinc (pc := 148) hV [some (ZR 0), some (ZI o), some (ZI 0), some (ZI (x3_111 + 1)), some (ZI r119)] (x3_111 + 1) dX12_readLook_148 rfl rfl (by decide) rfl rfl ?_
                  refine zr_goto (pc := 151) hV 111 dX12_readLook_151 (by decide) ?_
                  have t49 := zx_g2 hσ_2
                  have t50 : σ_2 0 2 = σ 0 2 := hFσ_2 _ _ (by omega)
                  refine zr_sub (pc := 111) hV [some (ZR 0), some (ZI o), some (ZI 0), some (ZI (x3_111 + 1)), none] (⟨rfl, rfl, rfl, rfl, trivial⟩) ?_
                  exact ih111 0 (x3_111 + 1) (by omega) (by omega) ⟨fun h => absurd h (by omega), fun _ q => by first | exact (hi111_0.2 (by omega)) ⟨q.1, fun f h0 h1 => q.2 f h0 (by omega)⟩ | exact absurd (q.2 x3_111 (by omega) (by omega)) (by omega)⟩ (by omega)
                · show V 128 [some (ZR 0), some (ZI o), some (ZI x2_111), some (ZI x3_111), some (ZI r119)] [] 41 σ_2
                  refine zr_iload (pc := 128) hV dX12_readLook_128 rfl ?_
                  refine zr_if_eq (pc := 130) hV 142 dX12_readLook_130 (by decide) (by omega) (fun c51 => ?_) (fun c51 => ?_)
                  · show V 142 [some (ZR 0), some (ZI o), some (ZI x2_111), some (ZI x3_111), some (ZI r119)] [] 41 σ_2
                    refine zr_iconst (pc := 142) hV 1 dX12_readLook_142 rfl ?_
                    refine zr_goto (pc := 143) hV 147 dX12_readLook_143 (by decide) ?_
                    show V 147 [some (ZR 0), some (ZI o), some (ZI x2_111), some (ZI x3_111), some (ZI r119)] [ZI 1] 41 σ_2
                    refine zr_istore_n (pc := 147) hV [some (ZR 0), some (ZI o), some (ZI 1), some (ZI x3_111), some (ZI r119)] dX12_readLook_147 rfl (by decide) rfl rfl ?_
                    refine zr_iinc (pc := 148) hV [some (ZR 0), some (ZI o), some (ZI 1), some (ZI (x3_111 + 1)), some (ZI r119)] (x3_111 + 1) dX12_readLook_148 rfl rfl (by decide) rfl rfl ?_
                    refine zr_goto (pc := 151) hV 111 dX12_readLook_151 (by decide) ?_
                    have t52 := zx_g2 hσ_2
                    have t53 : σ_2 0 2 = σ 0 2 := hFσ_2 _ _ (by omega)
                    refine zr_sub (pc := 111) hV [some (ZR 0), some (ZI o), some (ZI 1), some (ZI (x3_111 + 1)), none] (⟨rfl, rfl, rfl, rfl, trivial⟩) ?_
                    exact ih111 1 (x3_111 + 1) (by omega) (by omega) ⟨fun _ => ⟨(hi111_0.1 (by omega)).1, fun f h0 h1 => if hc : f = x3_111 then (by rw [hc]; omega) else (hi111_0.1 (by omega)).2 f h0 (by omega)⟩, fun h => absurd h (by omega)⟩ (by omega)
                  · show V 133 [some (ZR 0), some (ZI o), some (ZI x2_111), some (ZI x3_111), some (ZI r119)] [] 41 σ_2
                    refine zr_iload (pc := 133) hV dX12_readLook_133 rfl ?_
                    refine zr_aload_n (pc := 135) hV dX12_readLook_135 rfl rfl ?_
                    refine zr_getI (pc := 136) hV 1 dX12_readLook_136 fX12_13 rfl rfl rfl (by decide) ?_
                    have t54 := zx_g1 hσ_2
                    have t55 : σ_2 0 1 = σ 0 1 := hFσ_2 _ _ (by omega)
                    refine zr_icmp_ne (pc := 139) hV 146 dX12_readLook_139 (by decide) (by omega) (by omega) (fun c56 => ?_) (fun c56 => ?_)
                    · show V 146 [some (ZR 0), some (ZI o), some (ZI x2_111), some (ZI x3_111), some (ZI r119)] [] 41 σ_2
                      refine zr_iconst (pc := 146) hV 0 dX12_readLook_146 rfl ?_
                      show V 147 [some (ZR 0), some (ZI o), some (ZI x2_111), some (ZI x3_111), some (ZI r119)] [ZI 0] 41 σ_2
                      refine zr_istore_n (pc := 147) hV [some (ZR 0), some (ZI o), some (ZI 0), some (ZI x3_111), some (ZI r119)] dX12_readLook_147 rfl (by decide) rfl rfl ?_
                      refine zr_iinc (pc := 148) hV [some (ZR 0), some (ZI o), some (ZI 0), some (ZI (x3_111 + 1)), some (ZI r119)] (x3_111 + 1) dX12_readLook_148 rfl rfl (by decide) rfl rfl ?_
                      refine zr_goto (pc := 151) hV 111 dX12_readLook_151 (by decide) ?_
                      have t57 := zx_g2 hσ_2
                      have t58 : σ_2 0 2 = σ 0 2 := hFσ_2 _ _ (by omega)
                      refine zr_sub (pc := 111) hV [some (ZR 0), some (ZI o), some (ZI 0), some (ZI (x3_111 + 1)), none] (⟨rfl, rfl, rfl, rfl, trivial⟩) ?_
                      exact ih111 0 (x3_111 + 1) (by omega) (by omega) ⟨fun h => absurd h (by omega), fun _ q => by first | exact (hi111_0.2 (by omega)) ⟨q.1, fun f h0 h1 => q.2 f h0 (by omega)⟩ | exact absurd (q.2 x3_111 (by omega) (by omega)) (by omega)⟩ (by omega)
                    · show V 142 [some (ZR 0), some (ZI o), some (ZI x2_111), some (ZI x3_111), some (ZI r119)] [] 41 σ_2
                      refine zr_iconst (pc := 142) hV 1 dX12_readLook_142 rfl ?_
                      refine zr_goto (pc := 143) hV 147 dX12_readLook_143 (by decide) ?_
                      show V 147 [some (ZR 0), some (ZI o), some (ZI x2_111), some (ZI x3_111), some (ZI r119)] [ZI 1] 41 σ_2
                      refine zr_istore_n (pc := 147) hV [some (ZR 0), some (ZI o), some (ZI 1), some (ZI x3_111), some (ZI r119)] dX12_readLook_147 rfl (by decide) rfl rfl ?_
                      refine zr_iinc (pc := 148) hV [some (ZR 0), some (ZI o), some (ZI 1), some (ZI (x3_111 + 1)), some (ZI r119)] (x3_111 + 1) dX12_readLook_148 rfl rfl (by decide) rfl rfl ?_
                      refine zr_goto (pc := 151) hV 111 dX12_readLook_151 (by decide) ?_
                      have t59 := zx_g2 hσ_2
                      have t60 : σ_2 0 2 = σ 0 2 := hFσ_2 _ _ (by omega)
                      refine zr_sub (pc := 111) hV [some (ZR 0), some (ZI o), some (ZI 1), some (ZI (x3_111 + 1)), none] (⟨rfl, rfl, rfl, rfl, trivial⟩) ?_
                      exact ih111 1 (x3_111 + 1) (by omega) (by omega) ⟨fun _ => ⟨(hi111_0.1 (by omega)).1, fun f h0 h1 => if hc : f = x3_111 then (by rw [hc]; omega) else (hi111_0.1 (by omega)).2 f h0 (by omega)⟩, fun h => absurd h (by omega)⟩ (by omega)
          have t61 := zx_g2 hσ_2
          have t62 : σ_2 0 2 = σ 0 2 := hFσ_2 _ _ (by omega)
          exact L111 (3 - (0 : Int) + 1 : Int).toNat 1 0 (by omega) (by omega) ⟨fun _ => ⟨by omega, fun f h0 h1 => absurd h1 (by omega)⟩, fun h => absurd h (by omega)⟩ (by omega)
      · show V 10 [some (ZR 0), some (ZI o), some (ZI x2_2), none, none] [] 41 σ_2
        refine zr_aload_n (pc := 10) hV dX12_readLook_10 rfl rfl ?_
        refine zr_callVi (pc := 11) hV [] (st := []) (c_X12_next2 (σ := σ_2) hσ_2 ) dX12_readLook_11 mX12_203 rfl (by decide) (by decide) (Nat.le_of_ble_eq_true rfl) (Nat.le_refl _) (fun r11 σ11 hr11 pσ11 => ?_)
        obtain ⟨hσ11, hfσ11, pσ11⟩ := pσ11
        have hFσ11 : ∀ a i : Int, (¬ (a = 0 ∧ i = 15) ∧ ¬ (a = 2 ∧ 12 * o ≤ i ∧ i < 12 * o + 12)) → σ11 a i = σ a i := fun a i h => (hfσ11 a i h.1).trans (hFσ_2 a i h)
        have t63 := zx_g14 hσ_2
        have t64 : σ_2 0 14 = σ 0 14 := hFσ_2 _ _ (by omega)
        have t65 := zx_g15 hσ_2
        have Tσ_2 : σ_2 10 = σ 10 := funext (fun i => hFσ_2 10 i (by omega))
        have Nσ_2 : σ_2 0 14 = σ 0 14 := hFσ_2 0 14 (by omega)
        rw [Tσ_2, Nσ_2] at pσ11
        have t66 := zx_g15 hσ11
        rw [hi2_1] at pσ11
        have zv : zt_lv (σ 10) (σ 0 14) (σ 0 15) x2_2 = zt_lc r11 := by unfold zt_lv; rw [← pσ11.2]
        have zlb := zt_lc_b r11
        refine zr_istore_n (pc := 14) hV [some (ZR 0), some (ZI o), some (ZI x2_2), some (ZI r11), none] dX12_readLook_14 rfl (by decide) rfl rfl ?_
        refine zr_iload_n (pc := 15) hV dX12_readLook_15 rfl rfl ?_
        refine zr_bipush (pc := 16) hV 48 dX12_readLook_16 (by decide) ?_
        refine zr_icmp_ne (pc := 18) hV 25 dX12_readLook_18 (by decide) (by omega) ⟨by decide, by decide⟩ (fun c67 => ?_) (fun c67 => ?_)
        · show V 25 [some (ZR 0), some (ZI o), some (ZI x2_2), some (ZI r11), none] [] 41 σ11
          refine zr_iload_n (pc := 25) hV dX12_readLook_25 rfl rfl ?_
          refine zr_bipush (pc := 26) hV 49 dX12_readLook_26 (by decide) ?_
          refine zr_icmp_ne (pc := 28) hV 35 dX12_readLook_28 (by decide) (by omega) ⟨by decide, by decide⟩ (fun c68 => ?_) (fun c68 => ?_)
          · show V 35 [some (ZR 0), some (ZI o), some (ZI x2_2), some (ZI r11), none] [] 41 σ11
            refine zr_iload_n (pc := 35) hV dX12_readLook_35 rfl rfl ?_
            refine zr_callSp (pc := 36) hV [ZI r11] (st := []) (c_X12_fieldLetter2 (σ := σ11) r11 (by omega)) dX12_readLook_36 mX12_225 (by decide) (Nat.le_of_ble_eq_true rfl) (Nat.le_refl _) (fun r36 hr36 pr36 => ?_)
            refine zr_if_ge (pc := 39) hV 46 dX12_readLook_39 (by decide) (by omega) (fun c69 => ?_) (fun c69 => ?_)
            · show V 46 [some (ZR 0), some (ZI o), some (ZI x2_2), some (ZI r11), none] [] 41 σ11
              refine zr_iconst (pc := 46) hV 2 dX12_readLook_46 rfl ?_
              refine zr_iload_n (pc := 47) hV dX12_readLook_47 rfl rfl ?_
              refine zr_callSp (pc := 48) hV [ZI r11] (st := [ZI 2]) (c_X12_fieldLetter2 (σ := σ11) r11 (by omega)) dX12_readLook_48 mX12_225 (by decide) (Nat.le_of_ble_eq_true rfl) (Nat.le_refl _) (fun r48 hr48 pr48 => ?_)
              refine zr_iadd (pc := 51) hV dX12_readLook_51 ?_
              show V 52 [some (ZR 0), some (ZI o), some (ZI x2_2), some (ZI r11), none] [ZI (2 + r48)] 41 σ11
              refine zr_istore (pc := 52) hV [some (ZR 0), some (ZI o), some (ZI x2_2), some (ZI r11), some (ZI (2 + r48))] dX12_readLook_52 (by decide) rfl rfl ?_
              refine zr_iload (pc := 54) hV dX12_readLook_54 rfl ?_
              refine zr_if_ge (pc := 56) hV 61 dX12_readLook_56 (by decide) (by omega) (fun c70 => ?_) (fun c70 => ?_)
              · show V 61 [some (ZR 0), some (ZI o), some (ZI x2_2), some (ZI r11), some (ZI (2 + r48))] [] 41 σ11
                have zi := zt_nx_in (t := σ 10) (n := σ 0 14) (a := (zt_lp (σ 10) (σ 0 14) (σ 0 15) x2_2)) (by omega)
                refine zr_aload_n (pc := 61) hV dX12_readLook_61 rfl rfl ?_
                refine zr_getR (pc := 62) hV 5 2 dX12_readLook_62 fX12_23 rfl rfl rfl (by decide) (zx_g5 hσ11) (by omega) ?_
                refine zr_bipush (pc := 65) hV 12 dX12_readLook_65 (by decide) ?_
                refine zr_iload_n (pc := 67) hV dX12_readLook_67 rfl rfl ?_
                refine zr_imul (pc := 68) hV dX12_readLook_68 ?_
                refine zr_iload_n (pc := 69) hV dX12_readLook_69 rfl rfl ?_
                refine zr_iadd (pc := 70) hV dX12_readLook_70 ?_
                refine zr_iload (pc := 71) hV dX12_readLook_71 rfl ?_
                refine zr_iast (pc := 73) hV dX12_readLook_73 rfl (by decide) rfl (by omega) (fun σ73 eσ73 => ?_)
                have hσ73 : zx_T σ73 := zx_ua2 eσ73 hσ11 (by omega)
                have hFσ73 : ∀ a i : Int, (¬ (a = 0 ∧ i = 15) ∧ ¬ (a = 2 ∧ 12 * o ≤ i ∧ i < 12 * o + 12)) → σ73 a i = σ a i := fun a i h => by rw [eσ73, zq_up_ne (fun q => h.2 ⟨q.1, by omega⟩)]; exact hFσ11 a i h
                refine zr_aload_n (pc := 74) hV dX12_readLook_74 rfl rfl ?_
                refine zr_dup (pc := 75) hV dX12_readLook_75 (fun _ => rfl) ?_
                refine zr_getI (pc := 76) hV 15 dX12_readLook_76 fX12_200 rfl rfl rfl (by decide) ?_
                have t71 := zx_g15 hσ73
                have t72 : σ73 0 15 = σ11 0 15 := by rw [eσ73]; exact zq_up_ne (by omega)
                refine zr_iconst (pc := 79) hV 1 dX12_readLook_79 rfl ?_
                refine zr_iadd (pc := 80) hV dX12_readLook_80 ?_
                refine zr_putI (pc := 81) hV 15 dX12_readLook_81 fX12_200 rfl rfl rfl rfl (by decide) (fun σ81 eσ81 => ?_)
                have hσ81 : zx_T σ81 := zx_u15 eσ81 hσ73 (by omega)
                have hFσ81 : ∀ a i : Int, (¬ (a = 0 ∧ i = 15) ∧ ¬ (a = 2 ∧ 12 * o ≤ i ∧ i < 12 * o + 12)) → σ81 a i = σ a i := fun a i h => by rw [eσ81, zq_up_ne h.1]; exact hFσ73 a i h
                refine zr_iinc (pc := 84) hV [some (ZR 0), some (ZI o), some (ZI (x2_2 + 1)), some (ZI r11), some (ZI (2 + r48))] (x2_2 + 1) dX12_readLook_84 rfl rfl (by decide) rfl rfl ?_
                refine zr_goto (pc := 87) hV 2 dX12_readLook_87 (by decide) ?_
                have t73 := zx_g15 hσ81
                have t74 : σ81 0 15 = (σ73 0 15) + 1 := by rw [eσ81]; exact zq_up_same _ _ _ _
                refine zr_sub (pc := 2) hV [some (ZR 0), some (ZI o), some (ZI (x2_2 + 1)), none, none] (⟨rfl, rfl, rfl, trivial⟩) ?_
                exact ih2 (x2_2 + 1) σ81 (by omega) hσ81 hFσ81 (by omega) (by rw [zt_lp_s _ _ _ (by omega)]; omega) (by rw [← zt_lr_y (by omega) (by omega)]; exact hi2_2) (fun i h0 h1 => by rw [eσ81, zq_up_ne (by omega)]; exact if hc : i = x2_2 then (by rw [hc, eσ73, zq_up_same]; omega) else (by rw [eσ73, zq_up_ne (by omega), hfσ11 2 _ (by omega)]; exact hi2_3 i h0 (by omega))) (by omega)
              · exfalso; omega
            · show V 42 [some (ZR 0), some (ZI o), some (ZI x2_2), some (ZI r11), none] [] 41 σ11
              refine zr_iconst (pc := 42) hV (-1) dX12_readLook_42 rfl ?_
              refine zr_goto (pc := 43) hV 52 dX12_readLook_43 (by decide) ?_
              show V 52 [some (ZR 0), some (ZI o), some (ZI x2_2), some (ZI r11), none] [ZI (-1)] 41 σ11
              refine zr_istore (pc := 52) hV [some (ZR 0), some (ZI o), some (ZI x2_2), some (ZI r11), some (ZI (-1))] dX12_readLook_52 (by decide) rfl rfl ?_
              refine zr_iload (pc := 54) hV dX12_readLook_54 rfl ?_
              refine zr_if_ge (pc := 56) hV 61 dX12_readLook_56 (by decide) ⟨by decide, by decide⟩ (fun c75 => ?_) (fun c75 => ?_)
              · exfalso; omega
              · show V 59 [some (ZR 0), some (ZI o), some (ZI x2_2), some (ZI r11), some (ZI (-1))] [] 41 σ11
                have zlr : (zt_lr (σ 10) (σ 0 14) (σ 0 15) (σ 0 2) 0) = x2_2 := by rw [← hi2_2]; exact zt_lr_n (by omega)
                refine zr_iconst (pc := 59) hV 0 dX12_readLook_59 rfl ?_
                have t76 := zx_g15 hσ11
                exact zr_zret (pc := 60) hV dX12_readLook_60 rfl rfl (by omega) ⟨_, rfl, ⟨by decide, by decide⟩, hσ11, hFσ11, ⟨by omega, by omega, by rw [zlr]; omega⟩, (show ((0 : Int) = 1 → (zt_lr (σ 10) (σ 0 14) (σ 0 15) (σ 0 2) 0) = σ 0 2 ∧ (∀ i, 0 ≤ i → i < σ 0 2 → σ11 2 (12 * o + i) = zt_lv (σ 10) (σ 0 14) (σ 0 15) i) ∧ zt_fokr σ11 o (σ 0 1) (σ 0 0) ∧ zt_nx (σ 10) (σ 0 14) (zt_lp (σ 10) (σ 0 14) (σ 0 15) (σ 0 2)) = 58 ∧ zx_B σ11 o) ∧ ((0 : Int) = 0 → (zt_lr (σ 10) (σ 0 14) (σ 0 15) (σ 0 2) 0) = σ 0 2 → (∀ i, 0 ≤ i → i < σ 0 2 → σ11 2 (12 * o + i) = zt_lv (σ 10) (σ 0 14) (σ 0 15) i) ∧ ¬ (zt_fokr σ11 o (σ 0 1) (σ 0 0) ∧ zt_nx (σ 10) (σ 0 14) (zt_lp (σ 10) (σ 0 14) (σ 0 15) (σ 0 2)) = 58)) from ⟨fun h => absurd h (by omega), fun _ h => absurd h (by omega)⟩)⟩
          · show V 31 [some (ZR 0), some (ZI o), some (ZI x2_2), some (ZI r11), none] [] 41 σ11
            refine zr_iconst (pc := 31) hV 1 dX12_readLook_31 rfl ?_
            refine zr_goto (pc := 32) hV 52 dX12_readLook_32 (by decide) ?_
            show V 52 [some (ZR 0), some (ZI o), some (ZI x2_2), some (ZI r11), none] [ZI 1] 41 σ11
            refine zr_istore (pc := 52) hV [some (ZR 0), some (ZI o), some (ZI x2_2), some (ZI r11), some (ZI 1)] dX12_readLook_52 (by decide) rfl rfl ?_
            refine zr_iload (pc := 54) hV dX12_readLook_54 rfl ?_
            refine zr_if_ge (pc := 56) hV 61 dX12_readLook_56 (by decide) ⟨by decide, by decide⟩ (fun c77 => ?_) (fun c77 => ?_)
            · show V 61 [some (ZR 0), some (ZI o), some (ZI x2_2), some (ZI r11), some (ZI 1)] [] 41 σ11
              have zi := zt_nx_in (t := σ 10) (n := σ 0 14) (a := (zt_lp (σ 10) (σ 0 14) (σ 0 15) x2_2)) (by omega)
              refine zr_aload_n (pc := 61) hV dX12_readLook_61 rfl rfl ?_
              refine zr_getR (pc := 62) hV 5 2 dX12_readLook_62 fX12_23 rfl rfl rfl (by decide) (zx_g5 hσ11) (by omega) ?_
              refine zr_bipush (pc := 65) hV 12 dX12_readLook_65 (by decide) ?_
              refine zr_iload_n (pc := 67) hV dX12_readLook_67 rfl rfl ?_
              refine zr_imul (pc := 68) hV dX12_readLook_68 ?_
              refine zr_iload_n (pc := 69) hV dX12_readLook_69 rfl rfl ?_
              refine zr_iadd (pc := 70) hV dX12_readLook_70 ?_
              refine zr_iload (pc := 71) hV dX12_readLook_71 rfl ?_
              refine zr_iast (pc := 73) hV dX12_readLook_73 rfl (by decide) rfl (by omega) (fun σ73 eσ73 => ?_)
              have hσ73 : zx_T σ73 := zx_ua2 eσ73 hσ11 (by omega)
              have hFσ73 : ∀ a i : Int, (¬ (a = 0 ∧ i = 15) ∧ ¬ (a = 2 ∧ 12 * o ≤ i ∧ i < 12 * o + 12)) → σ73 a i = σ a i := fun a i h => by rw [eσ73, zq_up_ne (fun q => h.2 ⟨q.1, by omega⟩)]; exact hFσ11 a i h
              refine zr_aload_n (pc := 74) hV dX12_readLook_74 rfl rfl ?_
              refine zr_dup (pc := 75) hV dX12_readLook_75 (fun _ => rfl) ?_
              refine zr_getI (pc := 76) hV 15 dX12_readLook_76 fX12_200 rfl rfl rfl (by decide) ?_
              have t78 := zx_g15 hσ73
              have t79 : σ73 0 15 = σ11 0 15 := by rw [eσ73]; exact zq_up_ne (by omega)
              refine zr_iconst (pc := 79) hV 1 dX12_readLook_79 rfl ?_
              refine zr_iadd (pc := 80) hV dX12_readLook_80 ?_
              refine zr_putI (pc := 81) hV 15 dX12_readLook_81 fX12_200 rfl rfl rfl rfl (by decide) (fun σ81 eσ81 => ?_)
              have hσ81 : zx_T σ81 := zx_u15 eσ81 hσ73 (by omega)
              have hFσ81 : ∀ a i : Int, (¬ (a = 0 ∧ i = 15) ∧ ¬ (a = 2 ∧ 12 * o ≤ i ∧ i < 12 * o + 12)) → σ81 a i = σ a i := fun a i h => by rw [eσ81, zq_up_ne h.1]; exact hFσ73 a i h
              refine zr_iinc (pc := 84) hV [some (ZR 0), some (ZI o), some (ZI (x2_2 + 1)), some (ZI r11), some (ZI 1)] (x2_2 + 1) dX12_readLook_84 rfl rfl (by decide) rfl rfl ?_
              refine zr_goto (pc := 87) hV 2 dX12_readLook_87 (by decide) ?_
              have t80 := zx_g15 hσ81
              have t81 : σ81 0 15 = (σ73 0 15) + 1 := by rw [eσ81]; exact zq_up_same _ _ _ _
              refine zr_sub (pc := 2) hV [some (ZR 0), some (ZI o), some (ZI (x2_2 + 1)), none, none] (⟨rfl, rfl, rfl, trivial⟩) ?_
              exact ih2 (x2_2 + 1) σ81 (by omega) hσ81 hFσ81 (by omega) (by rw [zt_lp_s _ _ _ (by omega)]; omega) (by rw [← zt_lr_y (by omega) (by omega)]; exact hi2_2) (fun i h0 h1 => by rw [eσ81, zq_up_ne (by omega)]; exact if hc : i = x2_2 then (by rw [hc, eσ73, zq_up_same]; omega) else (by rw [eσ73, zq_up_ne (by omega), hfσ11 2 _ (by omega)]; exact hi2_3 i h0 (by omega))) (by omega)
            · exfalso; omega
        · show V 21 [some (ZR 0), some (ZI o), some (ZI x2_2), some (ZI r11), none] [] 41 σ11
          refine zr_iconst (pc := 21) hV 0 dX12_readLook_21 rfl ?_
          refine zr_goto (pc := 22) hV 52 dX12_readLook_22 (by decide) ?_
          show V 52 [some (ZR 0), some (ZI o), some (ZI x2_2), some (ZI r11), none] [ZI 0] 41 σ11
          refine zr_istore (pc := 52) hV [some (ZR 0), some (ZI o), some (ZI x2_2), some (ZI r11), some (ZI 0)] dX12_readLook_52 (by decide) rfl rfl ?_
          refine zr_iload (pc := 54) hV dX12_readLook_54 rfl ?_
          refine zr_if_ge (pc := 56) hV 61 dX12_readLook_56 (by decide) ⟨by decide, by decide⟩ (fun c82 => ?_) (fun c82 => ?_)
          · show V 61 [some (ZR 0), some (ZI o), some (ZI x2_2), some (ZI r11), some (ZI 0)] [] 41 σ11
            have zi := zt_nx_in (t := σ 10) (n := σ 0 14) (a := (zt_lp (σ 10) (σ 0 14) (σ 0 15) x2_2)) (by omega)
            refine zr_aload_n (pc := 61) hV dX12_readLook_61 rfl rfl ?_
            refine zr_getR (pc := 62) hV 5 2 dX12_readLook_62 fX12_23 rfl rfl rfl (by decide) (zx_g5 hσ11) (by omega) ?_
            refine zr_bipush (pc := 65) hV 12 dX12_readLook_65 (by decide) ?_
            refine zr_iload_n (pc := 67) hV dX12_readLook_67 rfl rfl ?_
            refine zr_imul (pc := 68) hV dX12_readLook_68 ?_
            refine zr_iload_n (pc := 69) hV dX12_readLook_69 rfl rfl ?_
            refine zr_iadd (pc := 70) hV dX12_readLook_70 ?_
            refine zr_iload (pc := 71) hV dX12_readLook_71 rfl ?_
            refine zr_iast (pc := 73) hV dX12_readLook_73 rfl (by decide) rfl (by omega) (fun σ73 eσ73 => ?_)
            have hσ73 : zx_T σ73 := zx_ua2 eσ73 hσ11 (by omega)
            have hFσ73 : ∀ a i : Int, (¬ (a = 0 ∧ i = 15) ∧ ¬ (a = 2 ∧ 12 * o ≤ i ∧ i < 12 * o + 12)) → σ73 a i = σ a i := fun a i h => by rw [eσ73, zq_up_ne (fun q => h.2 ⟨q.1, by omega⟩)]; exact hFσ11 a i h
            refine zr_aload_n (pc := 74) hV dX12_readLook_74 rfl rfl ?_
            refine zr_dup (pc := 75) hV dX12_readLook_75 (fun _ => rfl) ?_
            refine zr_getI (pc := 76) hV 15 dX12_readLook_76 fX12_200 rfl rfl rfl (by decide) ?_
            have t83 := zx_g15 hσ73
            have t84 : σ73 0 15 = σ11 0 15 := by rw [eσ73]; exact zq_up_ne (by omega)
            refine zr_iconst (pc := 79) hV 1 dX12_readLook_79 rfl ?_
            refine zr_iadd (pc := 80) hV dX12_readLook_80 ?_
            refine zr_putI (pc := 81) hV 15 dX12_readLook_81 fX12_200 rfl rfl rfl rfl (by decide) (fun σ81 eσ81 => ?_)
            have hσ81 : zx_T σ81 := zx_u15 eσ81 hσ73 (by omega)
            have hFσ81 : ∀ a i : Int, (¬ (a = 0 ∧ i = 15) ∧ ¬ (a = 2 ∧ 12 * o ≤ i ∧ i < 12 * o + 12)) → σ81 a i = σ a i := fun a i h => by rw [eσ81, zq_up_ne h.1]; exact hFσ73 a i h
            refine zr_iinc (pc := 84) hV [some (ZR 0), some (ZI o), some (ZI (x2_2 + 1)), some (ZI r11), some (ZI 0)] (x2_2 + 1) dX12_readLook_84 rfl rfl (by decide) rfl rfl ?_
            refine zr_goto (pc := 87) hV 2 dX12_readLook_87 (by decide) ?_
            have t85 := zx_g15 hσ81
            have t86 : σ81 0 15 = (σ73 0 15) + 1 := by rw [eσ81]; exact zq_up_same _ _ _ _
            refine zr_sub (pc := 2) hV [some (ZR 0), some (ZI o), some (ZI (x2_2 + 1)), none, none] (⟨rfl, rfl, rfl, trivial⟩) ?_
            exact ih2 (x2_2 + 1) σ81 (by omega) hσ81 hFσ81 (by omega) (by rw [zt_lp_s _ _ _ (by omega)]; omega) (by rw [← zt_lr_y (by omega) (by omega)]; exact hi2_2) (fun i h0 h1 => by rw [eσ81, zq_up_ne (by omega)]; exact if hc : i = x2_2 then (by rw [hc, eσ73, zq_up_same]; omega) else (by rw [eσ73, zq_up_ne (by omega), hfσ11 2 _ (by omega)]; exact hi2_3 i h0 (by omega))) (by omega)
          · exfalso; omega
  have t87 := zx_g15 hσ
  exact L2 (12 - (0 : Int) + 1 : Int).toNat 0 σ (by omega) hσ (fun a i _ => rfl) (by omega) (by rw [zt_lp_0]) rfl (fun i h0 h1 => absurd h1 (by omega)) (by omega)
