set_option maxHeartbeats 800000 in
theorem c_X12_likeFields3 {σ : zq_S} (hσ : zx_T σ) (one other : Int) (q0 : 0 ≤ one ∧ one ≤ 4095) (q1 : 0 ≤ other ∧ other ≤ 4095) (q2 : σ 0 30 = 1) (q3 : 0 ≤ σ 18 one ∧ σ 18 one < σ 0 3) (q4 : 0 ≤ σ 18 other ∧ σ 18 other < σ 0 3) (Mσ : zx_M σ) (Oσ : zx_O σ) (Wσ : zx_W σ) : zq_C zx_w yX12_likeFields cX12_likeFields 7 (some .boolean) 3 69 41 41 [ZR 0, ZI one, ZI other] σ (zq_pi (fun r τ => zx_T τ ∧ (∀ a i : Int, (¬ (a = 0 ∧ i = 30) ∧ a ≠ 18) → τ a i = σ a i) ∧ ((r = 0 ∨ r = 1)) ∧ zq_hid (r = 1 ↔ zk_ra σ (σ 18 one) (σ 18 other) one other) ∧ zx_M τ ∧ zx_O τ ∧ zx_W τ)) := by
  refine zq_C_of (by decide) (Nat.le_refl _) (Nat.le_of_ble_eq_true rfl) [some (ZR 0), some (ZI one), some (ZI other), none, none, none, none] rfl (fun V hV => ?_)
  show V 0 [some (ZR 0), some (ZI one), some (ZI other), none, none, none, none] [] 41 σ
  refine zr_aload_n (pc := 0) hV dX12_likeFields_0 rfl rfl ?_
  refine zr_iload_n (pc := 1) hV dX12_likeFields_1 rfl rfl ?_
  refine zr_callVi (pc := 2) hV [ZI one] (st := []) (c_X12_ownerOf2 (σ := σ) hσ one (by omega) Mσ Wσ) dX12_likeFields_2 mX12_283 rfl (by decide) (by decide) (Nat.le_of_ble_eq_true rfl) (Nat.le_refl _) (fun r2 σ2 hr2 pσ2 => ?_)
  obtain ⟨hσ2, hfσ2, pσ2⟩ := pσ2
  have Mσ2 : zx_M σ2 := pσ2.2.2.2.2.2.1
  have Oσ2 : zx_O σ2 := zx_O_fr (fun i => hfσ2 2 i (by omega)) (fun i => hfσ2 5 i (by omega)) (fun i => hfσ2 6 i (by omega)) (hfσ2 0 2 (by omega)) (hfσ2 0 3 (by omega)) Oσ
  have Wσ2 : zx_W σ2 := pσ2.2.2.2.2.2.2
  have hFσ2 : ∀ a i : Int, (¬ (a = 0 ∧ i = 30) ∧ a ≠ 18) → σ2 a i = σ a i := fun a i h => (hfσ2 a i ⟨h.1, h.2⟩)
  have t1 := zx_g30 hσ
  have t2 := zx_g30 hσ2
  have y1 := pσ2.2.2.2.2.1 (by omega) one
  have y2 := pσ2.2.2.2.2.1 (by omega) other
  refine zr_istore_n (pc := 5) hV [some (ZR 0), some (ZI one), some (ZI other), some (ZI r2), none, none, none] dX12_likeFields_5 rfl (by decide) rfl rfl ?_
  refine zr_aload_n (pc := 6) hV dX12_likeFields_6 rfl rfl ?_
  refine zr_iload_n (pc := 7) hV dX12_likeFields_7 rfl rfl ?_
  refine zr_callVi (pc := 8) hV [ZI other] (st := []) (c_X12_ownerOf2 (σ := σ2) hσ2 other (by omega) Mσ2 Wσ2) dX12_likeFields_8 mX12_283 rfl (by decide) (by decide) (Nat.le_of_ble_eq_true rfl) (Nat.le_refl _) (fun r8 σ8 hr8 pσ8 => ?_)
  obtain ⟨hσ8, hfσ8, pσ8⟩ := pσ8
  have Mσ8 : zx_M σ8 := pσ8.2.2.2.2.2.1
  have Oσ8 : zx_O σ8 := zx_O_fr (fun i => hfσ8 2 i (by omega)) (fun i => hfσ8 5 i (by omega)) (fun i => hfσ8 6 i (by omega)) (hfσ8 0 2 (by omega)) (hfσ8 0 3 (by omega)) Oσ2
  have Wσ8 : zx_W σ8 := pσ8.2.2.2.2.2.2
  have hFσ8 : ∀ a i : Int, (¬ (a = 0 ∧ i = 30) ∧ a ≠ 18) → σ8 a i = σ a i := fun a i h => (hfσ8 a i ⟨h.1, h.2⟩).trans (hFσ2 a i h)
  have t3 := zx_g30 hσ2
  have t4 := zx_g30 hσ8
  have y3 := pσ8.2.2.2.2.1 (by omega) other
  have y4 := zx_g3 hσ
  have o2 : r2 = σ 18 one := by have z := pσ2.2.2.1; rw [pσ2.2.2.2.2.1 (by omega) one] at z; exact z
  have o8 : r8 = σ 18 other := by have z := pσ8.2.2.1; rw [pσ8.2.2.2.2.1 pσ2.2.2.2.1 other, pσ2.2.2.2.2.1 (by omega) other] at z; exact z
  refine zr_istore (pc := 11) hV [some (ZR 0), some (ZI one), some (ZI other), some (ZI r2), some (ZI r8), none, none] dX12_likeFields_11 (by decide) rfl rfl ?_
  refine zr_iconst (pc := 13) hV 1 dX12_likeFields_13 rfl ?_
  refine zr_istore (pc := 14) hV [some (ZR 0), some (ZI one), some (ZI other), some (ZI r2), some (ZI r8), some (ZI 1), none] dX12_likeFields_14 (by decide) rfl rfl ?_
  refine zr_iconst (pc := 16) hV 0 dX12_likeFields_16 rfl ?_
  refine zr_istore (pc := 17) hV [some (ZR 0), some (ZI one), some (ZI other), some (ZI r2), some (ZI r8), some (ZI 1), some (ZI 0)] dX12_likeFields_17 (by decide) rfl rfl ?_
  have L19 : ∀ (fuel : Nat) (x5_19 : Int) (x6_19 : Int), (0 ≤ x5_19 ∧ x5_19 ≤ 1) → (0 ≤ x6_19 ∧ x6_19 ≤ 4) → (zq_hid (x5_19 = 1 ↔ (∀ f, 0 ≤ f → f < x6_19 → 0 < zx_cnt σ r2 f (σ 0 2) → 0 < zx_cnt σ r8 f (σ 0 2) → zu_rf σ r2 one f = zu_rf σ r8 other f))) → (0 ≤ x5_19 ∧ x5_19 ≤ 1) → 4 - x6_19 < (fuel : Int) → V 19 [some (ZR 0), some (ZI one), some (ZI other), some (ZI r2), some (ZI r8), some (ZI x5_19), some (ZI x6_19)] [] 41 σ8 := by
    intro fuel
    induction fuel with
    | zero =>
      intro x5_19 x6_19 hx5_19 hx6_19 hi19_0 hi19_1 hm19
      exfalso; omega
    | succ fuel ih =>
      intro x5_19 x6_19 hx5_19 hx6_19 hi19_0 hi19_1 hm19
      have ih19 := ih
      show V 19 [some (ZR 0), some (ZI one), some (ZI other), some (ZI r2), some (ZI r8), some (ZI x5_19), some (ZI x6_19)] [] 41 σ8
      refine zr_iload (pc := 19) hV dX12_likeFields_19 rfl ?_
      refine zr_iconst (pc := 21) hV 4 dX12_likeFields_21 rfl ?_
      refine zr_icmp_ge (pc := 22) hV 84 dX12_likeFields_22 (by decide) (by omega) ⟨by decide, by decide⟩ (fun c5 => ?_) (fun c5 => ?_)
      · show V 84 [some (ZR 0), some (ZI one), some (ZI other), some (ZI r2), some (ZI r8), some (ZI x5_19), some (ZI x6_19)] [] 41 σ8
        refine zr_iload (pc := 84) hV dX12_likeFields_84 rfl ?_
        exact zr_zret (pc := 86) hV dX12_likeFields_86 rfl rfl (by omega) ⟨_, rfl, (by omega), hσ8, hFσ8, (by omega), (show x5_19 = 1 ↔ zk_ra σ (σ 18 one) (σ 18 other) one other from (by rw [← o2, ← o8]; exact ⟨fun q f f0 f3 => hi19_0.mp q f f0 (by omega), fun q => hi19_0.mpr (fun f f0 f1 => q f f0 (by omega))⟩)), Mσ8, Oσ8, Wσ8⟩
      · show V 25 [some (ZR 0), some (ZI one), some (ZI other), some (ZI r2), some (ZI r8), some (ZI x5_19), some (ZI x6_19)] [] 41 σ8
        refine zr_iload (pc := 25) hV dX12_likeFields_25 rfl ?_
        refine zr_if_eq (pc := 27) hV 75 dX12_likeFields_27 (by decide) (by omega) (fun c6 => ?_) (fun c6 => ?_)
        · show V 75 [some (ZR 0), some (ZI one), some (ZI other), some (ZI r2), some (ZI r8), some (ZI x5_19), some (ZI x6_19)] [] 41 σ8
          refine zr_iconst (pc := 75) hV 0 dX12_likeFields_75 rfl ?_
          show V 76 [some (ZR 0), some (ZI one), some (ZI other), some (ZI r2), some (ZI r8), some (ZI x5_19), some (ZI x6_19)] [ZI 0] 41 σ8
          refine zr_istore (pc := 76) hV [some (ZR 0), some (ZI one), some (ZI other), some (ZI r2), some (ZI r8), some (ZI 0), some (ZI x6_19)] dX12_likeFields_76 (by decide) rfl rfl ?_
          refine zr_iinc (pc := 78) hV [some (ZR 0), some (ZI one), some (ZI other), some (ZI r2), some (ZI r8), some (ZI 0), some (ZI (x6_19 + 1))] (x6_19 + 1) dX12_likeFields_78 rfl rfl (by decide) rfl rfl ?_
          refine zr_goto (pc := 81) hV 19 dX12_likeFields_81 (by decide) ?_
          exact ih19 0 (x6_19 + 1) (by omega) (by omega) (by refine ⟨fun q => absurd q (by omega), fun q => ?_⟩; exfalso; first | (have z := hi19_0.mpr (fun f f0 f1 => q f f0 (by omega)); omega) | (have z := q x6_19 (by omega) (by omega) (n34.mp (by omega)) (n45.mp (by omega)); rw [← f56, ← f65] at z; omega)) (by omega) (by omega)
        · show V 30 [some (ZR 0), some (ZI one), some (ZI other), some (ZI r2), some (ZI r8), some (ZI x5_19), some (ZI x6_19)] [] 41 σ8
          refine zr_aload_n (pc := 30) hV dX12_likeFields_30 rfl rfl ?_
          refine zr_iload_n (pc := 31) hV dX12_likeFields_31 rfl rfl ?_
          refine zr_iload (pc := 32) hV dX12_likeFields_32 rfl ?_
          refine zr_callVp (pc := 34) hV [ZI r2, ZI x6_19] (st := []) (c_X12_hasField (σ := σ8) hσ8 r2 x6_19 (by omega) (by omega)) dX12_likeFields_34 mX12_188 rfl (by decide) (by decide) (Nat.le_of_ble_eq_true rfl) (Nat.le_refl _) (fun r34 hr34 pr34 => ?_)
          have t7 := zx_g2 hσ8
          have t8 : σ8 0 2 = σ2 0 2 := hfσ8 _ _ (by omega)
          have t9 : σ2 0 2 = σ 0 2 := hfσ2 _ _ (by omega)
          have n34 : zq_hid (r34 = 1 ↔ 0 < zx_cnt σ r2 x6_19 (σ 0 2)) := by have z := pr34.2; rw [zx_cnt_fr (σ := σ) (τ := σ8) (fun i => hFσ8 2 i (by omega)), hFσ8 0 2 (by omega)] at z; exact z
          refine zr_if_eq (pc := 37) hV 71 dX12_likeFields_37 (by decide) (by omega) (fun c10 => ?_) (fun c10 => ?_)
          · show V 71 [some (ZR 0), some (ZI one), some (ZI other), some (ZI r2), some (ZI r8), some (ZI x5_19), some (ZI x6_19)] [] 41 σ8
            refine zr_iconst (pc := 71) hV 1 dX12_likeFields_71 rfl ?_
            refine zr_goto (pc := 72) hV 76 dX12_likeFields_72 (by decide) ?_
            show V 76 [some (ZR 0), some (ZI one), some (ZI other), some (ZI r2), some (ZI r8), some (ZI x5_19), some (ZI x6_19)] [ZI 1] 41 σ8
            refine zr_istore (pc := 76) hV [some (ZR 0), some (ZI one), some (ZI other), some (ZI r2), some (ZI r8), some (ZI 1), some (ZI x6_19)] dX12_likeFields_76 (by decide) rfl rfl ?_
            refine zr_iinc (pc := 78) hV [some (ZR 0), some (ZI one), some (ZI other), some (ZI r2), some (ZI r8), some (ZI 1), some (ZI (x6_19 + 1))] (x6_19 + 1) dX12_likeFields_78 rfl rfl (by decide) rfl rfl ?_
            refine zr_goto (pc := 81) hV 19 dX12_likeFields_81 (by decide) ?_
            exact ih19 1 (x6_19 + 1) (by omega) (by omega) (by refine ⟨fun _ f f0 f1 h1 h2 => ?_, fun _ => rfl⟩; by_cases hc : f = x6_19; (rw [hc] at h1 h2 ⊢; first | exact absurd (n34.mpr h1) (by omega) | exact absurd (n45.mpr h2) (by omega) | (rw [← f56, ← f65]; omega)); exact (hi19_0.mp (by omega)) f f0 (by omega) h1 h2) (by omega) (by omega)
          · show V 40 [some (ZR 0), some (ZI one), some (ZI other), some (ZI r2), some (ZI r8), some (ZI x5_19), some (ZI x6_19)] [] 41 σ8
            refine zr_aload_n (pc := 40) hV dX12_likeFields_40 rfl rfl ?_
            refine zr_iload (pc := 41) hV dX12_likeFields_41 rfl ?_
            refine zr_iload (pc := 43) hV dX12_likeFields_43 rfl ?_
            refine zr_callVp (pc := 45) hV [ZI r8, ZI x6_19] (st := []) (c_X12_hasField (σ := σ8) hσ8 r8 x6_19 (by omega) (by omega)) dX12_likeFields_45 mX12_188 rfl (by decide) (by decide) (Nat.le_of_ble_eq_true rfl) (Nat.le_refl _) (fun r45 hr45 pr45 => ?_)
            have t11 := zx_g2 hσ8
            have t12 : σ8 0 2 = σ2 0 2 := hfσ8 _ _ (by omega)
            have t13 : σ2 0 2 = σ 0 2 := hfσ2 _ _ (by omega)
            have n45 : zq_hid (r45 = 1 ↔ 0 < zx_cnt σ r8 x6_19 (σ 0 2)) := by have z := pr45.2; rw [zx_cnt_fr (σ := σ) (τ := σ8) (fun i => hFσ8 2 i (by omega)), hFσ8 0 2 (by omega)] at z; exact z
            refine zr_if_eq (pc := 48) hV 71 dX12_likeFields_48 (by decide) (by omega) (fun c14 => ?_) (fun c14 => ?_)
            · show V 71 [some (ZR 0), some (ZI one), some (ZI other), some (ZI r2), some (ZI r8), some (ZI x5_19), some (ZI x6_19)] [] 41 σ8
              refine zr_iconst (pc := 71) hV 1 dX12_likeFields_71 rfl ?_
              refine zr_goto (pc := 72) hV 76 dX12_likeFields_72 (by decide) ?_
              show V 76 [some (ZR 0), some (ZI one), some (ZI other), some (ZI r2), some (ZI r8), some (ZI x5_19), some (ZI x6_19)] [ZI 1] 41 σ8
              refine zr_istore (pc := 76) hV [some (ZR 0), some (ZI one), some (ZI other), some (ZI r2), some (ZI r8), some (ZI 1), some (ZI x6_19)] dX12_likeFields_76 (by decide) rfl rfl ?_
              refine zr_iinc (pc := 78) hV [some (ZR 0), some (ZI one), some (ZI other), some (ZI r2), some (ZI r8), some (ZI 1), some (ZI (x6_19 + 1))] (x6_19 + 1) dX12_likeFields_78 rfl rfl (by decide) rfl rfl ?_
              refine zr_goto (pc := 81) hV 19 dX12_likeFields_81 (by decide) ?_
              exact ih19 1 (x6_19 + 1) (by omega) (by omega) (by refine ⟨fun _ f f0 f1 h1 h2 => ?_, fun _ => rfl⟩; by_cases hc : f = x6_19; (rw [hc] at h1 h2 ⊢; first | exact absurd (n34.mpr h1) (by omega) | exact absurd (n45.mpr h2) (by omega) | (rw [← f56, ← f65]; omega)); exact (hi19_0.mp (by omega)) f f0 (by omega) h1 h2) (by omega) (by omega)
            · show V 51 [some (ZR 0), some (ZI one), some (ZI other), some (ZI r2), some (ZI r8), some (ZI x5_19), some (ZI x6_19)] [] 41 σ8
              refine zr_aload_n (pc := 51) hV dX12_likeFields_51 rfl rfl ?_
              refine zr_iload_n (pc := 52) hV dX12_likeFields_52 rfl rfl ?_
              refine zr_iload_n (pc := 53) hV dX12_likeFields_53 rfl rfl ?_
              refine zr_iload (pc := 54) hV dX12_likeFields_54 rfl ?_
              refine zr_callVp (pc := 56) hV [ZI r2, ZI one, ZI x6_19] (st := []) (c_X12_fieldOf2 (σ := σ8) hσ8 r2 one x6_19 (by omega) (by omega) (by omega) (zx_B_fr (fun i => hFσ8 2 i (by omega)) (hFσ8 0 2 (by omega)) (Oσ r2 (by omega) (by omega)).2)) dX12_likeFields_56 mX12_289 rfl (by decide) (by decide) (Nat.le_of_ble_eq_true rfl) (Nat.le_refl _) (fun r56 hr56 pr56 => ?_)
              refine zr_aload_n (pc := 59) hV dX12_likeFields_59 rfl rfl ?_
              refine zr_iload (pc := 60) hV dX12_likeFields_60 rfl ?_
              refine zr_iload_n (pc := 62) hV dX12_likeFields_62 rfl rfl ?_
              refine zr_iload (pc := 63) hV dX12_likeFields_63 rfl ?_
              refine zr_callVp (pc := 65) hV [ZI r8, ZI other, ZI x6_19] (st := [ZI r56]) (c_X12_fieldOf2 (σ := σ8) hσ8 r8 other x6_19 (by omega) (by omega) (by omega) (zx_B_fr (fun i => hFσ8 2 i (by omega)) (hFσ8 0 2 (by omega)) (Oσ r8 (by omega) (by omega)).2)) dX12_likeFields_65 mX12_289 rfl (by decide) (by decide) (Nat.le_of_ble_eq_true rfl) (Nat.le_refl _) (fun r65 hr65 pr65 => ?_)
              have f56 : r56 = zu_rf σ r2 one x6_19 := by rw [pr56.2.2.2]; exact zu_rf_fr (fun i => hFσ8 2 i (by omega)) (hFσ8 0 2 (by omega))
              have f65 : r65 = zu_rf σ r8 other x6_19 := by rw [pr65.2.2.2]; exact zu_rf_fr (fun i => hFσ8 2 i (by omega)) (hFσ8 0 2 (by omega))
              refine zr_icmp_ne (pc := 68) hV 75 dX12_likeFields_68 (by decide) (by omega) (by omega) (fun c15 => ?_) (fun c15 => ?_)
              · show V 75 [some (ZR 0), some (ZI one), some (ZI other), some (ZI r2), some (ZI r8), some (ZI x5_19), some (ZI x6_19)] [] 41 σ8
                refine zr_iconst (pc := 75) hV 0 dX12_likeFields_75 rfl ?_
                show V 76 [some (ZR 0), some (ZI one), some (ZI other), some (ZI r2), some (ZI r8), some (ZI x5_19), some (ZI x6_19)] [ZI 0] 41 σ8
                refine zr_istore (pc := 76) hV [some (ZR 0), some (ZI one), some (ZI other), some (ZI r2), some (ZI r8), some (ZI 0), some (ZI x6_19)] dX12_likeFields_76 (by decide) rfl rfl ?_
                refine zr_iinc (pc := 78) hV [some (ZR 0), some (ZI one), some (ZI other), some (ZI r2), some (ZI r8), some (ZI 0), some (ZI (x6_19 + 1))] (x6_19 + 1) dX12_likeFields_78 rfl rfl (by decide) rfl rfl ?_
                refine zr_goto (pc := 81) hV 19 dX12_likeFields_81 (by decide) ?_
                exact ih19 0 (x6_19 + 1) (by omega) (by omega) (by refine ⟨fun q => absurd q (by omega), fun q => ?_⟩; exfalso; first | (have z := hi19_0.mpr (fun f f0 f1 => q f f0 (by omega)); omega) | (have z := q x6_19 (by omega) (by omega) (n34.mp (by omega)) (n45.mp (by omega)); rw [← f56, ← f65] at z; omega)) (by omega) (by omega)
              · show V 71 [some (ZR 0), some (ZI one), some (ZI other), some (ZI r2), some (ZI r8), some (ZI x5_19), some (ZI x6_19)] [] 41 σ8
                refine zr_iconst (pc := 71) hV 1 dX12_likeFields_71 rfl ?_
                refine zr_goto (pc := 72) hV 76 dX12_likeFields_72 (by decide) ?_
                show V 76 [some (ZR 0), some (ZI one), some (ZI other), some (ZI r2), some (ZI r8), some (ZI x5_19), some (ZI x6_19)] [ZI 1] 41 σ8
                refine zr_istore (pc := 76) hV [some (ZR 0), some (ZI one), some (ZI other), some (ZI r2), some (ZI r8), some (ZI 1), some (ZI x6_19)] dX12_likeFields_76 (by decide) rfl rfl ?_
                refine zr_iinc (pc := 78) hV [some (ZR 0), some (ZI one), some (ZI other), some (ZI r2), some (ZI r8), some (ZI 1), some (ZI (x6_19 + 1))] (x6_19 + 1) dX12_likeFields_78 rfl rfl (by decide) rfl rfl ?_
                refine zr_goto (pc := 81) hV 19 dX12_likeFields_81 (by decide) ?_
                exact ih19 1 (x6_19 + 1) (by omega) (by omega) (by refine ⟨fun _ f f0 f1 h1 h2 => ?_, fun _ => rfl⟩; by_cases hc : f = x6_19; (rw [hc] at h1 h2 ⊢; first | exact absurd (n34.mpr h1) (by omega) | exact absurd (n45.mpr h2) (by omega) | (rw [← f56, ← f65]; omega)); exact (hi19_0.mp (by omega)) f f0 (by omega) h1 h2) (by omega) (by omega)
  exact L19 (4 - (0 : Int) + 1 : Int).toNat 1 0 (by omega) (by omega) ⟨fun _ f f0 f1 => absurd f1 (by omega), fun _ => rfl⟩ (by omega) (by omega)
set_option maxHeartbeats 800000 in
theorem c_X12_pairsOf3 {σ : zq_S} (hσ : zx_T σ) (a c end_ : Int) (q0 : 0 ≤ a ∧ a < σ 0 3) (q1 : 0 ≤ c ∧ c < σ 0 3) (q2 : 0 ≤ end_ ∧ end_ ≤ 64) (Mσ : zx_M σ) (Oσ : zx_O σ) (Kσ : zx_K σ) (Wσ : zx_W σ) : zq_C zx_w yX12_pairsOf cX12_pairsOf 7 (some .int) 4 95 41 41 [ZR 0, ZI a, ZI c, ZI end_] σ (zq_pi (fun r τ => zx_T τ ∧ (∀ a i : Int, (¬ (a = 0 ∧ i = 30) ∧ a ≠ 18) → τ a i = σ a i) ∧ ((0 ≤ r ∧ r ≤ 64)) ∧ zq_hid (r = zk_P (fun x => zk_b (zk_r σ a c x)) end_ 0) ∧ zx_M τ ∧ zx_O τ ∧ zx_K τ ∧ zx_W τ)) := by
  refine zq_C_of (by decide) (Nat.le_refl _) (Nat.le_of_ble_eq_true rfl) [some (ZR 0), some (ZI a), some (ZI c), some (ZI end_), none, none, none] rfl (fun V hV => ?_)
  have z3 := zx_g3 hσ
  show V 0 [some (ZR 0), some (ZI a), some (ZI c), some (ZI end_), none, none, none] [] 41 σ
  refine zr_iconst (pc := 0) hV 0 dX12_pairsOf_0 rfl ?_
  refine zr_istore (pc := 1) hV [some (ZR 0), some (ZI a), some (ZI c), some (ZI end_), some (ZI 0), none, none] dX12_pairsOf_1 (by decide) rfl rfl ?_
  refine zr_iconst (pc := 3) hV 0 dX12_pairsOf_3 rfl ?_
  refine zr_istore (pc := 4) hV [some (ZR 0), some (ZI a), some (ZI c), some (ZI end_), some (ZI 0), some (ZI 0), none] dX12_pairsOf_4 (by decide) rfl rfl ?_
  have L6 : ∀ (fuel : Nat) (x4_6 : Int) (x5_6 : Int) (σ_6 : zq_S), (0 ≤ x4_6 ∧ x4_6 ≤ 64) → (0 ≤ x5_6 ∧ x5_6 ≤ 64) → (zx_T σ_6) → (∀ a i : Int, (¬ (a = 0 ∧ i = 30) ∧ a ≠ 18) → σ_6 a i = σ a i) → (zx_M σ_6) → (zx_O σ_6) → (zx_K σ_6) → (zx_W σ_6) → (x4_6 ≤ x5_6) → (zq_hid (x4_6 + zk_P (fun x => zk_b (zk_r σ a c x)) end_ x5_6 = zk_P (fun x => zk_b (zk_r σ a c x)) end_ 0)) → 65 - x5_6 < (fuel : Int) → V 6 [some (ZR 0), some (ZI a), some (ZI c), some (ZI end_), some (ZI x4_6), some (ZI x5_6), none] [] 41 σ_6 := by
    intro fuel
    induction fuel with
    | zero =>
      intro x4_6 x5_6 σ_6 hx4_6 hx5_6 hσ_6 hFσ_6 Mσ_6 Oσ_6 Kσ_6 Wσ_6 hi6_0 hi6_1 hm6
      exfalso; omega
    | succ fuel ih =>
      intro x4_6 x5_6 σ_6 hx4_6 hx5_6 hσ_6 hFσ_6 Mσ_6 Oσ_6 Kσ_6 Wσ_6 hi6_0 hi6_1 hm6
      have ih6 := ih
      show V 6 [some (ZR 0), some (ZI a), some (ZI c), some (ZI end_), some (ZI x4_6), some (ZI x5_6), none] [] 41 σ_6
      refine zr_iload (pc := 6) hV dX12_pairsOf_6 rfl ?_
      refine zr_iconst (pc := 8) hV 1 dX12_pairsOf_8 rfl ?_
      refine zr_iadd (pc := 9) hV dX12_pairsOf_9 ?_
      refine zr_iload_n (pc := 10) hV dX12_pairsOf_10 rfl rfl ?_
      refine zr_icmp_ge (pc := 11) hV 109 dX12_pairsOf_11 (by decide) (by omega) (by omega) (fun c1 => ?_) (fun c1 => ?_)
      · show V 109 [some (ZR 0), some (ZI a), some (ZI c), some (ZI end_), some (ZI x4_6), some (ZI x5_6), none] [] 41 σ_6
        refine zr_iload (pc := 109) hV dX12_pairsOf_109 rfl ?_
        exact zr_iret (pc := 111) hV dX12_pairsOf_111 rfl rfl ⟨_, rfl, (by omega), hσ_6, hFσ_6, (by omega), (show x4_6 = zk_P (fun x => zk_b (zk_r σ a c x)) end_ 0 from (by have y : x4_6 + zk_P (fun x => zk_b (zk_r σ a c x)) end_ x5_6 = zk_P (fun x => zk_b (zk_r σ a c x)) end_ 0 := hi6_1; rw [zk_P_e (by omega)] at y; omega)), Mσ_6, Oσ_6, Kσ_6, Wσ_6⟩
      · show V 14 [some (ZR 0), some (ZI a), some (ZI c), some (ZI end_), some (ZI x4_6), some (ZI x5_6), none] [] 41 σ_6
        refine zr_aload_n (pc := 14) hV dX12_pairsOf_14 rfl rfl ?_
        refine zr_aload_n (pc := 15) hV dX12_pairsOf_15 rfl rfl ?_
        refine zr_getR (pc := 16) hV 23 14 dX12_pairsOf_16 fX12_59 rfl rfl rfl (by decide) (zx_g23 hσ_6) (by omega) ?_
        refine zr_iload (pc := 19) hV dX12_pairsOf_19 rfl ?_
        refine zr_iald (pc := 21) hV dX12_pairsOf_21 rfl (by decide) rfl (by omega) ?_
        have t2 := zx_ga14 hσ_6 x5_6
        have t3 : σ_6 14 x5_6 = σ 14 x5_6 := hFσ_6 _ _ (by omega)
        refine zr_callVi (pc := 22) hV [ZI (σ_6 14 x5_6)] (st := []) (c_X12_ownerOf2 (σ := σ_6) hσ_6 (σ_6 14 x5_6) (by omega) Mσ_6 Wσ_6) dX12_pairsOf_22 mX12_283 rfl (by decide) (by decide) (Nat.le_of_ble_eq_true rfl) (Nat.le_refl _) (fun r22 σ22 hr22 pσ22 => ?_)
        obtain ⟨hσ22, hfσ22, pσ22⟩ := pσ22
        have Mσ22 : zx_M σ22 := pσ22.2.2.2.2.2.1
        have Oσ22 : zx_O σ22 := zx_O_fr (fun i => hfσ22 2 i (by omega)) (fun i => hfσ22 5 i (by omega)) (fun i => hfσ22 6 i (by omega)) (hfσ22 0 2 (by omega)) (hfσ22 0 3 (by omega)) Oσ_6
        have Kσ22 : zx_K σ22 := zx_K_fr (fun i => hfσ22 14 i (by omega)) (hfσ22 0 2 (by omega)) Kσ_6
        have Wσ22 : zx_W σ22 := pσ22.2.2.2.2.2.2
        have hFσ22 : ∀ a i : Int, (¬ (a = 0 ∧ i = 30) ∧ a ≠ 18) → σ22 a i = σ a i := fun a i h => (hfσ22 a i ⟨h.1, h.2⟩).trans (hFσ_6 a i h)
        have t4 := zx_g30 hσ_6
        have t5 := zx_g30 hσ22
        have ow22 : zt_ow σ (σ 14 x5_6) r22 := by have k1 : σ_6 14 x5_6 = σ 14 x5_6 := hFσ_6 14 _ (by omega); have b1 := Kσ x5_6 (by omega) (by omega); have c1 := zx_ga14 hσ x5_6; have q := Wσ22 pσ22.2.2.2.1 (σ_6 14 x5_6) (by omega) (by rw [hFσ22 0 2 (by omega), k1]; exact b1); rw [← pσ22.2.2.1, k1] at q; exact zt_ow_fr (fun i => (hFσ22 2 i (by omega)).symm) (hFσ22 0 3 (by omega)).symm (hFσ22 0 2 (by omega)).symm q
        refine zr_iload_n (pc := 25) hV dX12_pairsOf_25 rfl rfl ?_
        refine zr_icmp_ne (pc := 26) hV 73 dX12_pairsOf_26 (by decide) (by omega) (by omega) (fun c6 => ?_) (fun c6 => ?_)
        · show V 73 [some (ZR 0), some (ZI a), some (ZI c), some (ZI end_), some (ZI x4_6), some (ZI x5_6), none] [] 41 σ22
          refine zr_iconst (pc := 73) hV 0 dX12_pairsOf_73 rfl ?_
          show V 74 [some (ZR 0), some (ZI a), some (ZI c), some (ZI end_), some (ZI x4_6), some (ZI x5_6), none] [ZI 0] 41 σ22
          refine zr_istore (pc := 74) hV [some (ZR 0), some (ZI a), some (ZI c), some (ZI end_), some (ZI x4_6), some (ZI x5_6), some (ZI 0)] dX12_pairsOf_74 (by decide) rfl rfl ?_
          refine zr_iload (pc := 76) hV dX12_pairsOf_76 rfl ?_
          refine zr_iload (pc := 78) hV dX12_pairsOf_78 rfl ?_
          refine zr_if_eq (pc := 80) hV 87 dX12_pairsOf_80 (by decide) ⟨by decide, by decide⟩ (fun c7 => ?_) (fun c7 => ?_)
          · show V 87 [some (ZR 0), some (ZI a), some (ZI c), some (ZI end_), some (ZI x4_6), some (ZI x5_6), some (ZI 0)] [ZI x4_6] 41 σ22
            refine zr_iconst (pc := 87) hV 0 dX12_pairsOf_87 rfl ?_
            show V 88 [some (ZR 0), some (ZI a), some (ZI c), some (ZI end_), some (ZI x4_6), some (ZI x5_6), some (ZI 0)] [ZI 0, ZI x4_6] 41 σ22
            refine zr_iadd (pc := 88) hV dX12_pairsOf_88 ?_
            refine zr_istore (pc := 89) hV [some (ZR 0), some (ZI a), some (ZI c), some (ZI end_), some (ZI (x4_6 + 0)), some (ZI x5_6), some (ZI 0)] dX12_pairsOf_89 (by decide) rfl rfl ?_
            refine zr_iload (pc := 91) hV dX12_pairsOf_91 rfl ?_
            refine zr_iload (pc := 93) hV dX12_pairsOf_93 rfl ?_
            refine zr_if_eq (pc := 95) hV 102 dX12_pairsOf_95 (by decide) ⟨by decide, by decide⟩ (fun c8 => ?_) (fun c8 => ?_)
            · show V 102 [some (ZR 0), some (ZI a), some (ZI c), some (ZI end_), some (ZI (x4_6 + 0)), some (ZI x5_6), some (ZI 0)] [ZI x5_6] 41 σ22
              refine zr_iconst (pc := 102) hV 1 dX12_pairsOf_102 rfl ?_
              show V 103 [some (ZR 0), some (ZI a), some (ZI c), some (ZI end_), some (ZI (x4_6 + 0)), some (ZI x5_6), some (ZI 0)] [ZI 1, ZI x5_6] 41 σ22
              refine zr_iadd (pc := 103) hV dX12_pairsOf_103 ?_
              refine zr_istore (pc := 104) hV [some (ZR 0), some (ZI a), some (ZI c), some (ZI end_), some (ZI (x4_6 + 0)), some (ZI (x5_6 + 1)), some (ZI 0)] dX12_pairsOf_104 (by decide) rfl rfl ?_
              refine zr_goto (pc := 106) hV 6 dX12_pairsOf_106 (by decide) ?_
              refine zr_sub (pc := 6) hV [some (ZR 0), some (ZI a), some (ZI c), some (ZI end_), some (ZI (x4_6 + 0)), some (ZI (x5_6 + 1)), none] (⟨rfl, rfl, rfl, rfl, rfl, rfl, trivial⟩) ?_
              exact ih6 (x4_6 + 0) (x5_6 + 1) σ22 (by omega) (by omega) hσ22 hFσ22 Mσ22 Oσ22 Kσ22 Wσ22 (by omega) (by unfold zq_hid; have y : x4_6 + zk_P (fun x => zk_b (zk_r σ a c x)) end_ x5_6 = zk_P (fun x => zk_b (zk_r σ a c x)) end_ 0 := hi6_1; have z := zk_P_n (is := (fun x => zk_b (zk_r σ a c x))) (e := end_) (x := x5_6) (by omega) (zk_b_n (fun q => by first | exact absurd (zt_ow_u ow22 q.1 (by omega)) (by omega) | exact absurd (zt_ow_u ow39 q.2.1 (by omega)) (by omega) | exact absurd (al.mpr q.2.2) (by omega))); omega) (by omega)
            · exfalso; omega
          · exfalso; omega
        · show V 29 [some (ZR 0), some (ZI a), some (ZI c), some (ZI end_), some (ZI x4_6), some (ZI x5_6), none] [] 41 σ22
          refine zr_aload_n (pc := 29) hV dX12_pairsOf_29 rfl rfl ?_
          refine zr_aload_n (pc := 30) hV dX12_pairsOf_30 rfl rfl ?_
          refine zr_getR (pc := 31) hV 23 14 dX12_pairsOf_31 fX12_59 rfl rfl rfl (by decide) (zx_g23 hσ22) (by omega) ?_
          refine zr_iload (pc := 34) hV dX12_pairsOf_34 rfl ?_
          refine zr_iconst (pc := 36) hV 1 dX12_pairsOf_36 rfl ?_
          refine zr_iadd (pc := 37) hV dX12_pairsOf_37 ?_
          refine zr_iald (pc := 38) hV dX12_pairsOf_38 rfl (by decide) rfl (by omega) ?_
          have t9 := zx_ga14 hσ22 (x5_6 + 1)
          have t10 : σ22 14 (x5_6 + 1) = σ_6 14 (x5_6 + 1) := hfσ22 _ _ (by omega)
          have t11 : σ_6 14 (x5_6 + 1) = σ 14 (x5_6 + 1) := hFσ_6 _ _ (by omega)
          refine zr_callVi (pc := 39) hV [ZI (σ22 14 (x5_6 + 1))] (st := []) (c_X12_ownerOf2 (σ := σ22) hσ22 (σ22 14 (x5_6 + 1)) (by omega) Mσ22 Wσ22) dX12_pairsOf_39 mX12_283 rfl (by decide) (by decide) (Nat.le_of_ble_eq_true rfl) (Nat.le_refl _) (fun r39 σ39 hr39 pσ39 => ?_)
          obtain ⟨hσ39, hfσ39, pσ39⟩ := pσ39
          have Mσ39 : zx_M σ39 := pσ39.2.2.2.2.2.1
          have Oσ39 : zx_O σ39 := zx_O_fr (fun i => hfσ39 2 i (by omega)) (fun i => hfσ39 5 i (by omega)) (fun i => hfσ39 6 i (by omega)) (hfσ39 0 2 (by omega)) (hfσ39 0 3 (by omega)) Oσ22
          have Kσ39 : zx_K σ39 := zx_K_fr (fun i => hfσ39 14 i (by omega)) (hfσ39 0 2 (by omega)) Kσ22
          have Wσ39 : zx_W σ39 := pσ39.2.2.2.2.2.2
          have hFσ39 : ∀ a i : Int, (¬ (a = 0 ∧ i = 30) ∧ a ≠ 18) → σ39 a i = σ a i := fun a i h => (hfσ39 a i ⟨h.1, h.2⟩).trans (hFσ22 a i h)
          have t12 := zx_g30 hσ22
          have t13 := zx_g30 hσ39
          have ow39 : zt_ow σ (σ 14 (x5_6 + 1)) r39 := by have k1 : σ22 14 (x5_6 + 1) = σ 14 (x5_6 + 1) := hFσ22 14 _ (by omega); have b1 := Kσ (x5_6 + 1) (by omega) (by omega); have c1 := zx_ga14 hσ (x5_6 + 1); have q := Wσ39 pσ39.2.2.2.1 (σ22 14 (x5_6 + 1)) (by omega) (by rw [hFσ39 0 2 (by omega), k1]; exact b1); rw [← pσ39.2.2.1, k1] at q; exact zt_ow_fr (fun i => (hFσ39 2 i (by omega)).symm) (hFσ39 0 3 (by omega)).symm (hFσ39 0 2 (by omega)).symm q
          refine zr_iload_n (pc := 42) hV dX12_pairsOf_42 rfl rfl ?_
          refine zr_icmp_ne (pc := 43) hV 73 dX12_pairsOf_43 (by decide) (by omega) (by omega) (fun c14 => ?_) (fun c14 => ?_)
          · show V 73 [some (ZR 0), some (ZI a), some (ZI c), some (ZI end_), some (ZI x4_6), some (ZI x5_6), none] [] 41 σ39
            refine zr_iconst (pc := 73) hV 0 dX12_pairsOf_73 rfl ?_
            show V 74 [some (ZR 0), some (ZI a), some (ZI c), some (ZI end_), some (ZI x4_6), some (ZI x5_6), none] [ZI 0] 41 σ39
            refine zr_istore (pc := 74) hV [some (ZR 0), some (ZI a), some (ZI c), some (ZI end_), some (ZI x4_6), some (ZI x5_6), some (ZI 0)] dX12_pairsOf_74 (by decide) rfl rfl ?_
            refine zr_iload (pc := 76) hV dX12_pairsOf_76 rfl ?_
            refine zr_iload (pc := 78) hV dX12_pairsOf_78 rfl ?_
            refine zr_if_eq (pc := 80) hV 87 dX12_pairsOf_80 (by decide) ⟨by decide, by decide⟩ (fun c15 => ?_) (fun c15 => ?_)
            · show V 87 [some (ZR 0), some (ZI a), some (ZI c), some (ZI end_), some (ZI x4_6), some (ZI x5_6), some (ZI 0)] [ZI x4_6] 41 σ39
              refine zr_iconst (pc := 87) hV 0 dX12_pairsOf_87 rfl ?_
              show V 88 [some (ZR 0), some (ZI a), some (ZI c), some (ZI end_), some (ZI x4_6), some (ZI x5_6), some (ZI 0)] [ZI 0, ZI x4_6] 41 σ39
              refine zr_iadd (pc := 88) hV dX12_pairsOf_88 ?_
              refine zr_istore (pc := 89) hV [some (ZR 0), some (ZI a), some (ZI c), some (ZI end_), some (ZI (x4_6 + 0)), some (ZI x5_6), some (ZI 0)] dX12_pairsOf_89 (by decide) rfl rfl ?_
              refine zr_iload (pc := 91) hV dX12_pairsOf_91 rfl ?_
              refine zr_iload (pc := 93) hV dX12_pairsOf_93 rfl ?_
              refine zr_if_eq (pc := 95) hV 102 dX12_pairsOf_95 (by decide) ⟨by decide, by decide⟩ (fun c16 => ?_) (fun c16 => ?_)
              · show V 102 [some (ZR 0), some (ZI a), some (ZI c), some (ZI end_), some (ZI (x4_6 + 0)), some (ZI x5_6), some (ZI 0)] [ZI x5_6] 41 σ39
                refine zr_iconst (pc := 102) hV 1 dX12_pairsOf_102 rfl ?_
                show V 103 [some (ZR 0), some (ZI a), some (ZI c), some (ZI end_), some (ZI (x4_6 + 0)), some (ZI x5_6), some (ZI 0)] [ZI 1, ZI x5_6] 41 σ39
                refine zr_iadd (pc := 103) hV dX12_pairsOf_103 ?_
                refine zr_istore (pc := 104) hV [some (ZR 0), some (ZI a), some (ZI c), some (ZI end_), some (ZI (x4_6 + 0)), some (ZI (x5_6 + 1)), some (ZI 0)] dX12_pairsOf_104 (by decide) rfl rfl ?_
                refine zr_goto (pc := 106) hV 6 dX12_pairsOf_106 (by decide) ?_
                refine zr_sub (pc := 6) hV [some (ZR 0), some (ZI a), some (ZI c), some (ZI end_), some (ZI (x4_6 + 0)), some (ZI (x5_6 + 1)), none] (⟨rfl, rfl, rfl, rfl, rfl, rfl, trivial⟩) ?_
                exact ih6 (x4_6 + 0) (x5_6 + 1) σ39 (by omega) (by omega) hσ39 hFσ39 Mσ39 Oσ39 Kσ39 Wσ39 (by omega) (by unfold zq_hid; have y : x4_6 + zk_P (fun x => zk_b (zk_r σ a c x)) end_ x5_6 = zk_P (fun x => zk_b (zk_r σ a c x)) end_ 0 := hi6_1; have z := zk_P_n (is := (fun x => zk_b (zk_r σ a c x))) (e := end_) (x := x5_6) (by omega) (zk_b_n (fun q => by first | exact absurd (zt_ow_u ow22 q.1 (by omega)) (by omega) | exact absurd (zt_ow_u ow39 q.2.1 (by omega)) (by omega) | exact absurd (al.mpr q.2.2) (by omega))); omega) (by omega)
              · exfalso; omega
            · exfalso; omega
          · show V 46 [some (ZR 0), some (ZI a), some (ZI c), some (ZI end_), some (ZI x4_6), some (ZI x5_6), none] [] 41 σ39
            refine zr_aload_n (pc := 46) hV dX12_pairsOf_46 rfl rfl ?_
            refine zr_aload_n (pc := 47) hV dX12_pairsOf_47 rfl rfl ?_
            refine zr_getR (pc := 48) hV 23 14 dX12_pairsOf_48 fX12_59 rfl rfl rfl (by decide) (zx_g23 hσ39) (by omega) ?_
            refine zr_iload (pc := 51) hV dX12_pairsOf_51 rfl ?_
            refine zr_iald (pc := 53) hV dX12_pairsOf_53 rfl (by decide) rfl (by omega) ?_
            have t17 := zx_ga14 hσ39 x5_6
            have t18 : σ39 14 x5_6 = σ22 14 x5_6 := hfσ39 _ _ (by omega)
            have t19 : σ22 14 x5_6 = σ_6 14 x5_6 := hfσ22 _ _ (by omega)
            have t20 : σ_6 14 x5_6 = σ 14 x5_6 := hFσ_6 _ _ (by omega)
            refine zr_aload_n (pc := 54) hV dX12_pairsOf_54 rfl rfl ?_
            refine zr_getR (pc := 55) hV 23 14 dX12_pairsOf_55 fX12_59 rfl rfl rfl (by decide) (zx_g23 hσ39) (by omega) ?_
            refine zr_iload (pc := 58) hV dX12_pairsOf_58 rfl ?_
            refine zr_iconst (pc := 60) hV 1 dX12_pairsOf_60 rfl ?_
            refine zr_iadd (pc := 61) hV dX12_pairsOf_61 ?_
            refine zr_iald (pc := 62) hV dX12_pairsOf_62 rfl (by decide) rfl (by omega) ?_
            have t21 := zx_ga14 hσ39 (x5_6 + 1)
            have t22 : σ39 14 (x5_6 + 1) = σ22 14 (x5_6 + 1) := hfσ39 _ _ (by omega)
            have t23 : σ22 14 (x5_6 + 1) = σ_6 14 (x5_6 + 1) := hfσ22 _ _ (by omega)
            have t24 : σ_6 14 (x5_6 + 1) = σ 14 (x5_6 + 1) := hFσ_6 _ _ (by omega)
            have w1 : σ39 14 x5_6 = σ_6 14 x5_6 := by rw [hfσ39 14 _ (by omega), hfσ22 14 _ (by omega)]
            have w2 : σ39 14 (x5_6 + 1) = σ22 14 (x5_6 + 1) := hfσ39 14 _ (by omega)
            have y1 : σ39 18 (σ39 14 x5_6) = σ22 18 (σ_6 14 x5_6) := by rw [w1]; exact pσ39.2.2.2.2.1 pσ22.2.2.2.1 _
            have y2 : σ39 18 (σ39 14 (x5_6 + 1)) = σ39 18 (σ22 14 (x5_6 + 1)) := by rw [w2]
            have y3 := pσ39.2.2.2.1
            have t25 := zx_g30 hσ39
            have t26 := zx_g3 hσ39
            have t27 : σ39 0 3 = σ22 0 3 := hfσ39 _ _ (by omega)
            have t28 : σ22 0 3 = σ_6 0 3 := hfσ22 _ _ (by omega)
            have t29 : σ_6 0 3 = σ 0 3 := hFσ_6 _ _ (by omega)
            have t30 := zx_g3 hσ39
            have t31 : σ39 0 3 = σ22 0 3 := hfσ39 _ _ (by omega)
            have t32 : σ22 0 3 = σ_6 0 3 := hfσ22 _ _ (by omega)
            have t33 : σ_6 0 3 = σ 0 3 := hFσ_6 _ _ (by omega)
            refine zr_callVi (pc := 63) hV [ZI (σ39 14 x5_6), ZI (σ39 14 (x5_6 + 1))] (st := []) (c_X12_likeFields3 (σ := σ39) hσ39 (σ39 14 x5_6) (σ39 14 (x5_6 + 1)) (by omega) (by omega) (by omega) (by omega) (by omega) Mσ39 Oσ39 Wσ39) dX12_pairsOf_63 mX12_462 rfl (by decide) (by decide) (Nat.le_of_ble_eq_true rfl) (Nat.le_refl _) (fun r63 σ63 hr63 pσ63 => ?_)
            obtain ⟨hσ63, hfσ63, pσ63, wσ63, Mσ63, Oσ63, Wσ63⟩ := pσ63
            have Kσ63 : zx_K σ63 := zx_K_fr (fun i => hfσ63 14 i (by omega)) (hfσ63 0 2 (by omega)) Kσ39
            have hFσ63 : ∀ a i : Int, (¬ (a = 0 ∧ i = 30) ∧ a ≠ 18) → σ63 a i = σ a i := fun a i h => (hfσ63 a i ⟨h.1, h.2⟩).trans (hFσ39 a i h)
            have al : zq_hid (r63 = 1 ↔ zk_ra σ a c (σ 14 x5_6) (σ 14 (x5_6 + 1))) := by have w := wσ63; unfold zq_hid at w ⊢; have k1 : σ39 14 x5_6 = σ 14 x5_6 := hFσ39 14 _ (by omega); have k2 : σ39 14 (x5_6 + 1) = σ 14 (x5_6 + 1) := hFσ39 14 _ (by omega); rw [show σ39 18 (σ39 14 x5_6) = a by omega, show σ39 18 (σ39 14 (x5_6 + 1)) = c by omega, k1, k2] at w; exact w.trans (zk_ra_fr (fun i => hFσ39 2 i (by omega)) (hFσ39 0 2 (by omega)))
            refine zr_if_eq (pc := 66) hV 73 dX12_pairsOf_66 (by decide) (by omega) (fun c34 => ?_) (fun c34 => ?_)
            · show V 73 [some (ZR 0), some (ZI a), some (ZI c), some (ZI end_), some (ZI x4_6), some (ZI x5_6), none] [] 41 σ63
              refine zr_iconst (pc := 73) hV 0 dX12_pairsOf_73 rfl ?_
              show V 74 [some (ZR 0), some (ZI a), some (ZI c), some (ZI end_), some (ZI x4_6), some (ZI x5_6), none] [ZI 0] 41 σ63
              refine zr_istore (pc := 74) hV [some (ZR 0), some (ZI a), some (ZI c), some (ZI end_), some (ZI x4_6), some (ZI x5_6), some (ZI 0)] dX12_pairsOf_74 (by decide) rfl rfl ?_
              refine zr_iload (pc := 76) hV dX12_pairsOf_76 rfl ?_
              refine zr_iload (pc := 78) hV dX12_pairsOf_78 rfl ?_
              refine zr_if_eq (pc := 80) hV 87 dX12_pairsOf_80 (by decide) ⟨by decide, by decide⟩ (fun c35 => ?_) (fun c35 => ?_)
              · show V 87 [some (ZR 0), some (ZI a), some (ZI c), some (ZI end_), some (ZI x4_6), some (ZI x5_6), some (ZI 0)] [ZI x4_6] 41 σ63
                refine zr_iconst (pc := 87) hV 0 dX12_pairsOf_87 rfl ?_
                show V 88 [some (ZR 0), some (ZI a), some (ZI c), some (ZI end_), some (ZI x4_6), some (ZI x5_6), some (ZI 0)] [ZI 0, ZI x4_6] 41 σ63
                refine zr_iadd (pc := 88) hV dX12_pairsOf_88 ?_
                refine zr_istore (pc := 89) hV [some (ZR 0), some (ZI a), some (ZI c), some (ZI end_), some (ZI (x4_6 + 0)), some (ZI x5_6), some (ZI 0)] dX12_pairsOf_89 (by decide) rfl rfl ?_
                refine zr_iload (pc := 91) hV dX12_pairsOf_91 rfl ?_
                refine zr_iload (pc := 93) hV dX12_pairsOf_93 rfl ?_
                refine zr_if_eq (pc := 95) hV 102 dX12_pairsOf_95 (by decide) ⟨by decide, by decide⟩ (fun c36 => ?_) (fun c36 => ?_)
                · show V 102 [some (ZR 0), some (ZI a), some (ZI c), some (ZI end_), some (ZI (x4_6 + 0)), some (ZI x5_6), some (ZI 0)] [ZI x5_6] 41 σ63
                  refine zr_iconst (pc := 102) hV 1 dX12_pairsOf_102 rfl ?_
                  show V 103 [some (ZR 0), some (ZI a), some (ZI c), some (ZI end_), some (ZI (x4_6 + 0)), some (ZI x5_6), some (ZI 0)] [ZI 1, ZI x5_6] 41 σ63
                  refine zr_iadd (pc := 103) hV dX12_pairsOf_103 ?_
                  refine zr_istore (pc := 104) hV [some (ZR 0), some (ZI a), some (ZI c), some (ZI end_), some (ZI (x4_6 + 0)), some (ZI (x5_6 + 1)), some (ZI 0)] dX12_pairsOf_104 (by decide) rfl rfl ?_
                  refine zr_goto (pc := 106) hV 6 dX12_pairsOf_106 (by decide) ?_
                  refine zr_sub (pc := 6) hV [some (ZR 0), some (ZI a), some (ZI c), some (ZI end_), some (ZI (x4_6 + 0)), some (ZI (x5_6 + 1)), none] (⟨rfl, rfl, rfl, rfl, rfl, rfl, trivial⟩) ?_
                  exact ih6 (x4_6 + 0) (x5_6 + 1) σ63 (by omega) (by omega) hσ63 hFσ63 Mσ63 Oσ63 Kσ63 Wσ63 (by omega) (by unfold zq_hid; have y : x4_6 + zk_P (fun x => zk_b (zk_r σ a c x)) end_ x5_6 = zk_P (fun x => zk_b (zk_r σ a c x)) end_ 0 := hi6_1; have z := zk_P_n (is := (fun x => zk_b (zk_r σ a c x))) (e := end_) (x := x5_6) (by omega) (zk_b_n (fun q => by first | exact absurd (zt_ow_u ow22 q.1 (by omega)) (by omega) | exact absurd (zt_ow_u ow39 q.2.1 (by omega)) (by omega) | exact absurd (al.mpr q.2.2) (by omega))); omega) (by omega)
                · exfalso; omega
              · exfalso; omega
            · show V 69 [some (ZR 0), some (ZI a), some (ZI c), some (ZI end_), some (ZI x4_6), some (ZI x5_6), none] [] 41 σ63
              refine zr_iconst (pc := 69) hV 1 dX12_pairsOf_69 rfl ?_
              refine zr_goto (pc := 70) hV 74 dX12_pairsOf_70 (by decide) ?_
              show V 74 [some (ZR 0), some (ZI a), some (ZI c), some (ZI end_), some (ZI x4_6), some (ZI x5_6), none] [ZI 1] 41 σ63
              refine zr_istore (pc := 74) hV [some (ZR 0), some (ZI a), some (ZI c), some (ZI end_), some (ZI x4_6), some (ZI x5_6), some (ZI 1)] dX12_pairsOf_74 (by decide) rfl rfl ?_
              refine zr_iload (pc := 76) hV dX12_pairsOf_76 rfl ?_
              refine zr_iload (pc := 78) hV dX12_pairsOf_78 rfl ?_
              refine zr_if_eq (pc := 80) hV 87 dX12_pairsOf_80 (by decide) ⟨by decide, by decide⟩ (fun c37 => ?_) (fun c37 => ?_)
              · exfalso; omega
              · show V 83 [some (ZR 0), some (ZI a), some (ZI c), some (ZI end_), some (ZI x4_6), some (ZI x5_6), some (ZI 1)] [ZI x4_6] 41 σ63
                refine zr_iconst (pc := 83) hV 1 dX12_pairsOf_83 rfl ?_
                refine zr_goto (pc := 84) hV 88 dX12_pairsOf_84 (by decide) ?_
                show V 88 [some (ZR 0), some (ZI a), some (ZI c), some (ZI end_), some (ZI x4_6), some (ZI x5_6), some (ZI 1)] [ZI 1, ZI x4_6] 41 σ63
                refine zr_iadd (pc := 88) hV dX12_pairsOf_88 ?_
                refine zr_istore (pc := 89) hV [some (ZR 0), some (ZI a), some (ZI c), some (ZI end_), some (ZI (x4_6 + 1)), some (ZI x5_6), some (ZI 1)] dX12_pairsOf_89 (by decide) rfl rfl ?_
                refine zr_iload (pc := 91) hV dX12_pairsOf_91 rfl ?_
                refine zr_iload (pc := 93) hV dX12_pairsOf_93 rfl ?_
                refine zr_if_eq (pc := 95) hV 102 dX12_pairsOf_95 (by decide) ⟨by decide, by decide⟩ (fun c38 => ?_) (fun c38 => ?_)
                · exfalso; omega
                · show V 98 [some (ZR 0), some (ZI a), some (ZI c), some (ZI end_), some (ZI (x4_6 + 1)), some (ZI x5_6), some (ZI 1)] [ZI x5_6] 41 σ63
                  refine zr_iconst (pc := 98) hV 2 dX12_pairsOf_98 rfl ?_
                  refine zr_goto (pc := 99) hV 103 dX12_pairsOf_99 (by decide) ?_
                  show V 103 [some (ZR 0), some (ZI a), some (ZI c), some (ZI end_), some (ZI (x4_6 + 1)), some (ZI x5_6), some (ZI 1)] [ZI 2, ZI x5_6] 41 σ63
                  refine zr_iadd (pc := 103) hV dX12_pairsOf_103 ?_
                  refine zr_istore (pc := 104) hV [some (ZR 0), some (ZI a), some (ZI c), some (ZI end_), some (ZI (x4_6 + 1)), some (ZI (x5_6 + 2)), some (ZI 1)] dX12_pairsOf_104 (by decide) rfl rfl ?_
                  refine zr_goto (pc := 106) hV 6 dX12_pairsOf_106 (by decide) ?_
                  refine zr_sub (pc := 6) hV [some (ZR 0), some (ZI a), some (ZI c), some (ZI end_), some (ZI (x4_6 + 1)), some (ZI (x5_6 + 2)), none] (⟨rfl, rfl, rfl, rfl, rfl, rfl, trivial⟩) ?_
                  exact ih6 (x4_6 + 1) (x5_6 + 2) σ63 (by omega) (by omega) hσ63 hFσ63 Mσ63 Oσ63 Kσ63 Wσ63 (by omega) (by unfold zq_hid; have y : x4_6 + zk_P (fun x => zk_b (zk_r σ a c x)) end_ x5_6 = zk_P (fun x => zk_b (zk_r σ a c x)) end_ 0 := hi6_1; have z := zk_P_y (is := (fun x => zk_b (zk_r σ a c x))) (e := end_) (x := x5_6) (by omega) (zk_b_y ⟨(show r22 = a by omega) ▸ ow22, (show r39 = c by omega) ▸ ow39, al.mp (by omega)⟩); omega) (by omega)
  exact L6 (65 - (0 : Int) + 1 : Int).toNat 0 0 σ (by omega) (by omega) hσ (fun a i _ => rfl) Mσ Oσ Kσ Wσ (by omega) (Int.zero_add _) (by omega)
set_option maxHeartbeats 800000 in
theorem c_X12_pairs3 {σ : zq_S} (hσ : zx_T σ) (a c end_ : Int) (q0 : zq_in a) (q1 : zq_in c) (q2 : zq_in end_) (Mσ : zx_M σ) (Oσ : zx_O σ) (Kσ : zx_K σ) (Wσ : zx_W σ) : zq_C zx_w yX12_pairs cX12_pairs 4 (some .int) 5 121 41 41 [ZR 0, ZI a, ZI c, ZI end_] σ (zq_pi (fun r τ => zx_T τ ∧ (∀ a i : Int, (¬ (a = 0 ∧ i = 30) ∧ a ≠ 18) → τ a i = σ a i) ∧ (True) ∧ zq_hid ((¬ (0 ≤ a ∧ a < σ 0 3 ∧ 0 ≤ c ∧ c < σ 0 3 ∧ 0 ≤ end_ ∧ end_ ≤ 64) → r = -1) ∧ (0 ≤ a ∧ a < σ 0 3 ∧ 0 ≤ c ∧ c < σ 0 3 ∧ 0 ≤ end_ ∧ end_ ≤ 64 → r = zk_P (fun x => zk_b (zk_r σ a c x)) end_ 0)) ∧ zx_M τ ∧ zx_O τ ∧ zx_K τ ∧ zx_W τ)) := by
  refine zq_C_of (by decide) (Nat.le_refl _) (Nat.le_of_ble_eq_true rfl) [some (ZR 0), some (ZI a), some (ZI c), some (ZI end_)] rfl (fun V hV => ?_)
  show V 0 [some (ZR 0), some (ZI a), some (ZI c), some (ZI end_)] [] 41 σ
  refine zr_aload_n (pc := 0) hV dX12_pairs_0 rfl rfl ?_
  refine zr_iload_n (pc := 1) hV dX12_pairs_1 rfl rfl ?_
  refine zr_callVp (pc := 2) hV [ZI a] (st := []) (c_X12_isOrder (σ := σ) hσ a (by omega)) dX12_pairs_2 mX12_271 rfl (by decide) (by decide) (Nat.le_of_ble_eq_true rfl) (Nat.le_refl _) (fun r2 hr2 pr2 => ?_)
  have t1 := zx_g3 hσ
  refine zr_if_eq (pc := 5) hV 38 dX12_pairs_5 (by decide) (by omega) (fun c2 => ?_) (fun c2 => ?_)
  · show V 38 [some (ZR 0), some (ZI a), some (ZI c), some (ZI end_)] [] 41 σ
    refine zr_iconst (pc := 38) hV (-1) dX12_pairs_38 rfl ?_
    show V 39 [some (ZR 0), some (ZI a), some (ZI c), some (ZI end_)] [ZI (-1)] 41 σ
    exact zr_iret (pc := 39) hV dX12_pairs_39 rfl rfl ⟨_, rfl, ⟨by decide, by decide⟩, hσ, (fun a i _ => rfl), trivial, (show (¬ (0 ≤ a ∧ a < σ 0 3 ∧ 0 ≤ c ∧ c < σ 0 3 ∧ 0 ≤ end_ ∧ end_ ≤ 64) → ((-1) : Int) = -1) ∧ (0 ≤ a ∧ a < σ 0 3 ∧ 0 ≤ c ∧ c < σ 0 3 ∧ 0 ≤ end_ ∧ end_ ≤ 64 → ((-1) : Int) = zk_P (fun x => zk_b (zk_r σ a c x)) end_ 0) from ⟨fun _ => rfl, fun h => absurd h (by omega)⟩), Mσ, Oσ, Kσ, Wσ⟩
  · show V 8 [some (ZR 0), some (ZI a), some (ZI c), some (ZI end_)] [] 41 σ
    refine zr_aload_n (pc := 8) hV dX12_pairs_8 rfl rfl ?_
    refine zr_iload_n (pc := 9) hV dX12_pairs_9 rfl rfl ?_
    refine zr_callVp (pc := 10) hV [ZI c] (st := []) (c_X12_isOrder (σ := σ) hσ c (by omega)) dX12_pairs_10 mX12_271 rfl (by decide) (by decide) (Nat.le_of_ble_eq_true rfl) (Nat.le_refl _) (fun r10 hr10 pr10 => ?_)
    have t3 := zx_g3 hσ
    refine zr_if_eq (pc := 13) hV 38 dX12_pairs_13 (by decide) (by omega) (fun c4 => ?_) (fun c4 => ?_)
    · show V 38 [some (ZR 0), some (ZI a), some (ZI c), some (ZI end_)] [] 41 σ
      refine zr_iconst (pc := 38) hV (-1) dX12_pairs_38 rfl ?_
      show V 39 [some (ZR 0), some (ZI a), some (ZI c), some (ZI end_)] [ZI (-1)] 41 σ
      exact zr_iret (pc := 39) hV dX12_pairs_39 rfl rfl ⟨_, rfl, ⟨by decide, by decide⟩, hσ, (fun a i _ => rfl), trivial, (show (¬ (0 ≤ a ∧ a < σ 0 3 ∧ 0 ≤ c ∧ c < σ 0 3 ∧ 0 ≤ end_ ∧ end_ ≤ 64) → ((-1) : Int) = -1) ∧ (0 ≤ a ∧ a < σ 0 3 ∧ 0 ≤ c ∧ c < σ 0 3 ∧ 0 ≤ end_ ∧ end_ ≤ 64 → ((-1) : Int) = zk_P (fun x => zk_b (zk_r σ a c x)) end_ 0) from ⟨fun _ => rfl, fun h => absurd h (by omega)⟩), Mσ, Oσ, Kσ, Wσ⟩
    · show V 16 [some (ZR 0), some (ZI a), some (ZI c), some (ZI end_)] [] 41 σ
      refine zr_iload_n (pc := 16) hV dX12_pairs_16 rfl rfl ?_
      refine zr_i2l (pc := 17) hV dX12_pairs_17 (by omega) ?_
      refine zr_lconst (pc := 18) hV 0 dX12_pairs_18 (by decide) ?_
      refine zr_ldc2 (pc := 19) (v := 64) hV 64 dX12_pairs_19 kX12_465 (by decide) ?_
      refine zr_callSp (pc := 22) hV [ZL end_, ZL 0, ZL 64] (st := []) (c_X12_in (σ := σ) end_ 0 64 (by omega) (by omega) (by omega)) dX12_pairs_22 mX12_170 (by decide) (Nat.le_of_ble_eq_true rfl) (Nat.le_refl _) (fun r22 hr22 pr22 => ?_)
      refine zr_if_eq (pc := 25) hV 38 dX12_pairs_25 (by decide) (by omega) (fun c5 => ?_) (fun c5 => ?_)
      · show V 38 [some (ZR 0), some (ZI a), some (ZI c), some (ZI end_)] [] 41 σ
        refine zr_iconst (pc := 38) hV (-1) dX12_pairs_38 rfl ?_
        show V 39 [some (ZR 0), some (ZI a), some (ZI c), some (ZI end_)] [ZI (-1)] 41 σ
        exact zr_iret (pc := 39) hV dX12_pairs_39 rfl rfl ⟨_, rfl, ⟨by decide, by decide⟩, hσ, (fun a i _ => rfl), trivial, (show (¬ (0 ≤ a ∧ a < σ 0 3 ∧ 0 ≤ c ∧ c < σ 0 3 ∧ 0 ≤ end_ ∧ end_ ≤ 64) → ((-1) : Int) = -1) ∧ (0 ≤ a ∧ a < σ 0 3 ∧ 0 ≤ c ∧ c < σ 0 3 ∧ 0 ≤ end_ ∧ end_ ≤ 64 → ((-1) : Int) = zk_P (fun x => zk_b (zk_r σ a c x)) end_ 0) from ⟨fun _ => rfl, fun h => absurd h (by omega)⟩), Mσ, Oσ, Kσ, Wσ⟩
      · show V 28 [some (ZR 0), some (ZI a), some (ZI c), some (ZI end_)] [] 41 σ
        refine zr_aload_n (pc := 28) hV dX12_pairs_28 rfl rfl ?_
        refine zr_iload_n (pc := 29) hV dX12_pairs_29 rfl rfl ?_
        refine zr_iload_n (pc := 30) hV dX12_pairs_30 rfl rfl ?_
        refine zr_iload_n (pc := 31) hV dX12_pairs_31 rfl rfl ?_
        have t6 := zx_g3 hσ
        have t7 := zx_g3 hσ
        refine zr_callVi (pc := 32) hV [ZI a, ZI c, ZI end_] (st := []) (c_X12_pairsOf3 (σ := σ) hσ a c end_ (by omega) (by omega) (by omega) Mσ Oσ Kσ Wσ) dX12_pairs_32 mX12_467 rfl (by decide) (by decide) (Nat.le_of_ble_eq_true rfl) (Nat.le_refl _) (fun r32 σ32 hr32 pσ32 => ?_)
        obtain ⟨hσ32, hfσ32, pσ32, wσ32, Mσ32, Oσ32, Kσ32, Wσ32⟩ := pσ32
        have hFσ32 : ∀ a i : Int, (¬ (a = 0 ∧ i = 30) ∧ a ≠ 18) → σ32 a i = σ a i := fun a i h => (hfσ32 a i ⟨h.1, h.2⟩)
        refine zr_goto (pc := 35) hV 39 dX12_pairs_35 (by decide) ?_
        show V 39 [some (ZR 0), some (ZI a), some (ZI c), some (ZI end_)] [ZI r32] 41 σ32
        exact zr_iret (pc := 39) hV dX12_pairs_39 rfl rfl ⟨_, rfl, (by omega), hσ32, hFσ32, trivial, (show (¬ (0 ≤ a ∧ a < σ 0 3 ∧ 0 ≤ c ∧ c < σ 0 3 ∧ 0 ≤ end_ ∧ end_ ≤ 64) → r32 = -1) ∧ (0 ≤ a ∧ a < σ 0 3 ∧ 0 ≤ c ∧ c < σ 0 3 ∧ 0 ≤ end_ ∧ end_ ≤ 64 → r32 = zk_P (fun x => zk_b (zk_r σ a c x)) end_ 0) from ⟨fun h => absurd (by omega) h, fun _ => wσ32⟩), Mσ32, Oσ32, Kσ32, Wσ32⟩
