set_option maxHeartbeats 800000 in
theorem c_X12_likeFields {σ : zq_S} (hσ : zx_T σ) (one other : Int) (q0 : 0 ≤ one ∧ one ≤ 4095) (q1 : 0 ≤ other ∧ other ≤ 4095) (q2 : σ 0 30 = 1) (q3 : 0 ≤ σ 18 one ∧ σ 18 one < σ 0 3) (q4 : 0 ≤ σ 18 other ∧ σ 18 other < σ 0 3) (Mσ : zx_M σ) (Oσ : zx_O σ) : zq_C zx_w yX12_likeFields cX12_likeFields 7 (some .boolean) 3 69 41 41 [ZR 0, ZI one, ZI other] σ (zq_pi (fun r τ => zx_T τ ∧ (∀ a i : Int, (¬ (a = 0 ∧ i = 30) ∧ a ≠ 18) → τ a i = σ a i) ∧ ((r = 0 ∨ r = 1)) ∧ zx_M τ ∧ zx_O τ)) := by
  refine zq_C_of (by decide) (Nat.le_refl _) (Nat.le_of_ble_eq_true rfl) [some (ZR 0), some (ZI one), some (ZI other), none, none, none, none] rfl (fun V hV => ?_)
  show V 0 [some (ZR 0), some (ZI one), some (ZI other), none, none, none, none] [] 41 σ
  refine zr_aload_n (pc := 0) hV dX12_likeFields_0 rfl rfl ?_
  refine zr_iload_n (pc := 1) hV dX12_likeFields_1 rfl rfl ?_
  refine zr_callVi (pc := 2) hV [ZI one] (st := []) (c_X12_ownerOf (σ := σ) hσ one (by omega) Mσ) dX12_likeFields_2 mX12_283 rfl (by decide) (by decide) (Nat.le_of_ble_eq_true rfl) (Nat.le_refl _) (fun r2 σ2 hr2 pσ2 => ?_)
  obtain ⟨hσ2, hfσ2, pσ2⟩ := pσ2
  have Mσ2 : zx_M σ2 := pσ2.2.2.2.2.2
  have Oσ2 : zx_O σ2 := zx_O_fr (fun i => hfσ2 2 i (by omega)) (fun i => hfσ2 5 i (by omega)) (fun i => hfσ2 6 i (by omega)) (hfσ2 0 2 (by omega)) (hfσ2 0 3 (by omega)) Oσ
  have hFσ2 : ∀ a i : Int, (¬ (a = 0 ∧ i = 30) ∧ a ≠ 18) → σ2 a i = σ a i := fun a i h => (hfσ2 a i ⟨h.1, h.2⟩)
  have t1 := zx_g30 hσ
  have t2 := zx_g30 hσ2
  have y1 := pσ2.2.2.2.2.1 (by omega) one
  have y2 := pσ2.2.2.2.2.1 (by omega) other
  refine zr_istore_n (pc := 5) hV [some (ZR 0), some (ZI one), some (ZI other), some (ZI r2), none, none, none] dX12_likeFields_5 rfl (by decide) rfl rfl ?_
  refine zr_aload_n (pc := 6) hV dX12_likeFields_6 rfl rfl ?_
  refine zr_iload_n (pc := 7) hV dX12_likeFields_7 rfl rfl ?_
  refine zr_callVi (pc := 8) hV [ZI other] (st := []) (c_X12_ownerOf (σ := σ2) hσ2 other (by omega) Mσ2) dX12_likeFields_8 mX12_283 rfl (by decide) (by decide) (Nat.le_of_ble_eq_true rfl) (Nat.le_refl _) (fun r8 σ8 hr8 pσ8 => ?_)
  obtain ⟨hσ8, hfσ8, pσ8⟩ := pσ8
  have Mσ8 : zx_M σ8 := pσ8.2.2.2.2.2
  have Oσ8 : zx_O σ8 := zx_O_fr (fun i => hfσ8 2 i (by omega)) (fun i => hfσ8 5 i (by omega)) (fun i => hfσ8 6 i (by omega)) (hfσ8 0 2 (by omega)) (hfσ8 0 3 (by omega)) Oσ2
  have hFσ8 : ∀ a i : Int, (¬ (a = 0 ∧ i = 30) ∧ a ≠ 18) → σ8 a i = σ a i := fun a i h => (hfσ8 a i ⟨h.1, h.2⟩).trans (hFσ2 a i h)
  have t3 := zx_g30 hσ2
  have t4 := zx_g30 hσ8
  have y3 := pσ8.2.2.2.2.1 (by omega) other
  have y4 := zx_g3 hσ
  refine zr_istore (pc := 11) hV [some (ZR 0), some (ZI one), some (ZI other), some (ZI r2), some (ZI r8), none, none] dX12_likeFields_11 (by decide) rfl rfl ?_
  refine zr_iconst (pc := 13) hV 1 dX12_likeFields_13 rfl ?_
  refine zr_istore (pc := 14) hV [some (ZR 0), some (ZI one), some (ZI other), some (ZI r2), some (ZI r8), some (ZI 1), none] dX12_likeFields_14 (by decide) rfl rfl ?_
  refine zr_iconst (pc := 16) hV 0 dX12_likeFields_16 rfl ?_
  refine zr_istore (pc := 17) hV [some (ZR 0), some (ZI one), some (ZI other), some (ZI r2), some (ZI r8), some (ZI 1), some (ZI 0)] dX12_likeFields_17 (by decide) rfl rfl ?_
  have L19 : ∀ (fuel : Nat) (x5_19 : Int) (x6_19 : Int), (0 ≤ x5_19 ∧ x5_19 ≤ 1) → (0 ≤ x6_19 ∧ x6_19 ≤ 4) → 4 - x6_19 < (fuel : Int) → V 19 [some (ZR 0), some (ZI one), some (ZI other), some (ZI r2), some (ZI r8), some (ZI x5_19), some (ZI x6_19)] [] 41 σ8 := by
    intro fuel
    induction fuel with
    | zero =>
      intro x5_19 x6_19 hx5_19 hx6_19 hm19
      exfalso; omega
    | succ fuel ih =>
      intro x5_19 x6_19 hx5_19 hx6_19 hm19
      have ih19 := ih
      show V 19 [some (ZR 0), some (ZI one), some (ZI other), some (ZI r2), some (ZI r8), some (ZI x5_19), some (ZI x6_19)] [] 41 σ8
      refine zr_iload (pc := 19) hV dX12_likeFields_19 rfl ?_
      refine zr_iconst (pc := 21) hV 4 dX12_likeFields_21 rfl ?_
      refine zr_icmp_ge (pc := 22) hV 84 dX12_likeFields_22 (by decide) (by omega) ⟨by decide, by decide⟩ (fun c5 => ?_) (fun c5 => ?_)
      · show V 84 [some (ZR 0), some (ZI one), some (ZI other), some (ZI r2), some (ZI r8), some (ZI x5_19), some (ZI x6_19)] [] 41 σ8
        refine zr_iload (pc := 84) hV dX12_likeFields_84 rfl ?_
        exact zr_zret (pc := 86) hV dX12_likeFields_86 rfl rfl (by omega) ⟨_, rfl, (by omega), hσ8, hFσ8, (by omega), Mσ8, Oσ8⟩
      · show V 25 [some (ZR 0), some (ZI one), some (ZI other), some (ZI r2), some (ZI r8), some (ZI x5_19), some (ZI x6_19)] [] 41 σ8
        refine zr_iload (pc := 25) hV dX12_likeFields_25 rfl ?_
        refine zr_if_eq (pc := 27) hV 75 dX12_likeFields_27 (by decide) (by omega) (fun c6 => ?_) (fun c6 => ?_)
        · show V 75 [some (ZR 0), some (ZI one), some (ZI other), some (ZI r2), some (ZI r8), some (ZI x5_19), some (ZI x6_19)] [] 41 σ8
          refine zr_iconst (pc := 75) hV 0 dX12_likeFields_75 rfl ?_
          show V 76 [some (ZR 0), some (ZI one), some (ZI other), some (ZI r2), some (ZI r8), some (ZI x5_19), some (ZI x6_19)] [ZI 0] 41 σ8
          refine zr_istore (pc := 76) hV [some (ZR 0), some (ZI one), some (ZI other), some (ZI r2), some (ZI r8), some (ZI 0), some (ZI x6_19)] dX12_likeFields_76 (by decide) rfl rfl ?_
          refine zr_iinc (pc := 78) hV [some (ZR 0), some (ZI one), some (ZI other), some (ZI r2), some (ZI r8), some (ZI 0), some (ZI (x6_19 + 1))] (x6_19 + 1) dX12_likeFields_78 rfl rfl (by decide) rfl rfl ?_
          refine zr_goto (pc := 81) hV 19 dX12_likeFields_81 (by decide) ?_
          exact ih19 0 (x6_19 + 1) (by omega) (by omega) (by omega)
        · show V 30 [some (ZR 0), some (ZI one), some (ZI other), some (ZI r2), some (ZI r8), some (ZI x5_19), some (ZI x6_19)] [] 41 σ8
          refine zr_aload_n (pc := 30) hV dX12_likeFields_30 rfl rfl ?_
          refine zr_iload_n (pc := 31) hV dX12_likeFields_31 rfl rfl ?_
          refine zr_iload (pc := 32) hV dX12_likeFields_32 rfl ?_
          refine zr_callVp (pc := 34) hV [ZI r2, ZI x6_19] (st := []) (c_X12_hasField (σ := σ8) hσ8 r2 x6_19 (by omega) (by omega)) dX12_likeFields_34 mX12_188 rfl (by decide) (by decide) (Nat.le_of_ble_eq_true rfl) (Nat.le_refl _) (fun r34 hr34 pr34 => ?_)
          have t7 := zx_g2 hσ8
          have t8 : σ8 0 2 = σ2 0 2 := hfσ8 _ _ (by omega)
          have t9 : σ2 0 2 = σ 0 2 := hfσ2 _ _ (by omega)
          refine zr_if_eq (pc := 37) hV 71 dX12_likeFields_37 (by decide) (by omega) (fun c10 => ?_) (fun c10 => ?_)
          · show V 71 [some (ZR 0), some (ZI one), some (ZI other), some (ZI r2), some (ZI r8), some (ZI x5_19), some (ZI x6_19)] [] 41 σ8
            refine zr_iconst (pc := 71) hV 1 dX12_likeFields_71 rfl ?_
            refine zr_goto (pc := 72) hV 76 dX12_likeFields_72 (by decide) ?_
            show V 76 [some (ZR 0), some (ZI one), some (ZI other), some (ZI r2), some (ZI r8), some (ZI x5_19), some (ZI x6_19)] [ZI 1] 41 σ8
            refine zr_istore (pc := 76) hV [some (ZR 0), some (ZI one), some (ZI other), some (ZI r2), some (ZI r8), some (ZI 1), some (ZI x6_19)] dX12_likeFields_76 (by decide) rfl rfl ?_
            refine zr_iinc (pc := 78) hV [some (ZR 0), some (ZI one), some (ZI other), some (ZI r2), some (ZI r8), some (ZI 1), some (ZI (x6_19 + 1))] (x6_19 + 1) dX12_likeFields_78 rfl rfl (by decide) rfl rfl ?_
            refine zr_goto (pc := 81) hV 19 dX12_likeFields_81 (by decide) ?_
            exact ih19 1 (x6_19 + 1) (by omega) (by omega) (by omega)
          · show V 40 [some (ZR 0), some (ZI one), some (ZI other), some (ZI r2), some (ZI r8), some (ZI x5_19), some (ZI x6_19)] [] 41 σ8
            refine zr_aload_n (pc := 40) hV dX12_likeFields_40 rfl rfl ?_
            refine zr_iload (pc := 41) hV dX12_likeFields_41 rfl ?_
            refine zr_iload (pc := 43) hV dX12_likeFields_43 rfl ?_
            refine zr_callVp (pc := 45) hV [ZI r8, ZI x6_19] (st := []) (c_X12_hasField (σ := σ8) hσ8 r8 x6_19 (by omega) (by omega)) dX12_likeFields_45 mX12_188 rfl (by decide) (by decide) (Nat.le_of_ble_eq_true rfl) (Nat.le_refl _) (fun r45 hr45 pr45 => ?_)
            have t11 := zx_g2 hσ8
            have t12 : σ8 0 2 = σ2 0 2 := hfσ8 _ _ (by omega)
            have t13 : σ2 0 2 = σ 0 2 := hfσ2 _ _ (by omega)
            refine zr_if_eq (pc := 48) hV 71 dX12_likeFields_48 (by decide) (by omega) (fun c14 => ?_) (fun c14 => ?_)
            · show V 71 [some (ZR 0), some (ZI one), some (ZI other), some (ZI r2), some (ZI r8), some (ZI x5_19), some (ZI x6_19)] [] 41 σ8
              refine zr_iconst (pc := 71) hV 1 dX12_likeFields_71 rfl ?_
              refine zr_goto (pc := 72) hV 76 dX12_likeFields_72 (by decide) ?_
              show V 76 [some (ZR 0), some (ZI one), some (ZI other), some (ZI r2), some (ZI r8), some (ZI x5_19), some (ZI x6_19)] [ZI 1] 41 σ8
              refine zr_istore (pc := 76) hV [some (ZR 0), some (ZI one), some (ZI other), some (ZI r2), some (ZI r8), some (ZI 1), some (ZI x6_19)] dX12_likeFields_76 (by decide) rfl rfl ?_
              refine zr_iinc (pc := 78) hV [some (ZR 0), some (ZI one), some (ZI other), some (ZI r2), some (ZI r8), some (ZI 1), some (ZI (x6_19 + 1))] (x6_19 + 1) dX12_likeFields_78 rfl rfl (by decide) rfl rfl ?_
              refine zr_goto (pc := 81) hV 19 dX12_likeFields_81 (by decide) ?_
              exact ih19 1 (x6_19 + 1) (by omega) (by omega) (by omega)
            · show V 51 [some (ZR 0), some (ZI one), some (ZI other), some (ZI r2), some (ZI r8), some (ZI x5_19), some (ZI x6_19)] [] 41 σ8
              refine zr_aload_n (pc := 51) hV dX12_likeFields_51 rfl rfl ?_
              refine zr_iload_n (pc := 52) hV dX12_likeFields_52 rfl rfl ?_
              refine zr_iload_n (pc := 53) hV dX12_likeFields_53 rfl rfl ?_
              refine zr_iload (pc := 54) hV dX12_likeFields_54 rfl ?_
              refine zr_callVp (pc := 56) hV [ZI r2, ZI one, ZI x6_19] (st := []) (c_X12_fieldOf (σ := σ8) hσ8 r2 one x6_19 (by omega) (by omega) (by omega) (zx_B_fr (fun i => hFσ8 2 i (by omega)) (hFσ8 0 2 (by omega)) (Oσ r2 (by omega) (by omega)).2)) dX12_likeFields_56 mX12_289 rfl (by decide) (by decide) (Nat.le_of_ble_eq_true rfl) (Nat.le_refl _) (fun r56 hr56 pr56 => ?_)
              refine zr_aload_n (pc := 59) hV dX12_likeFields_59 rfl rfl ?_
              refine zr_iload (pc := 60) hV dX12_likeFields_60 rfl ?_
              refine zr_iload_n (pc := 62) hV dX12_likeFields_62 rfl rfl ?_
              refine zr_iload (pc := 63) hV dX12_likeFields_63 rfl ?_
              refine zr_callVp (pc := 65) hV [ZI r8, ZI other, ZI x6_19] (st := [ZI r56]) (c_X12_fieldOf (σ := σ8) hσ8 r8 other x6_19 (by omega) (by omega) (by omega) (zx_B_fr (fun i => hFσ8 2 i (by omega)) (hFσ8 0 2 (by omega)) (Oσ r8 (by omega) (by omega)).2)) dX12_likeFields_65 mX12_289 rfl (by decide) (by decide) (Nat.le_of_ble_eq_true rfl) (Nat.le_refl _) (fun r65 hr65 pr65 => ?_)
              refine zr_icmp_ne (pc := 68) hV 75 dX12_likeFields_68 (by decide) (by omega) (by omega) (fun c15 => ?_) (fun c15 => ?_)
              · show V 75 [some (ZR 0), some (ZI one), some (ZI other), some (ZI r2), some (ZI r8), some (ZI x5_19), some (ZI x6_19)] [] 41 σ8
                refine zr_iconst (pc := 75) hV 0 dX12_likeFields_75 rfl ?_
                show V 76 [some (ZR 0), some (ZI one), some (ZI other), some (ZI r2), some (ZI r8), some (ZI x5_19), some (ZI x6_19)] [ZI 0] 41 σ8
                refine zr_istore (pc := 76) hV [some (ZR 0), some (ZI one), some (ZI other), some (ZI r2), some (ZI r8), some (ZI 0), some (ZI x6_19)] dX12_likeFields_76 (by decide) rfl rfl ?_
                refine zr_iinc (pc := 78) hV [some (ZR 0), some (ZI one), some (ZI other), some (ZI r2), some (ZI r8), some (ZI 0), some (ZI (x6_19 + 1))] (x6_19 + 1) dX12_likeFields_78 rfl rfl (by decide) rfl rfl ?_
                refine zr_goto (pc := 81) hV 19 dX12_likeFields_81 (by decide) ?_
                exact ih19 0 (x6_19 + 1) (by omega) (by omega) (by omega)
              · show V 71 [some (ZR 0), some (ZI one), some (ZI other), some (ZI r2), some (ZI r8), some (ZI x5_19), some (ZI x6_19)] [] 41 σ8
                refine zr_iconst (pc := 71) hV 1 dX12_likeFields_71 rfl ?_
                refine zr_goto (pc := 72) hV 76 dX12_likeFields_72 (by decide) ?_
                show V 76 [some (ZR 0), some (ZI one), some (ZI other), some (ZI r2), some (ZI r8), some (ZI x5_19), some (ZI x6_19)] [ZI 1] 41 σ8
                refine zr_istore (pc := 76) hV [some (ZR 0), some (ZI one), some (ZI other), some (ZI r2), some (ZI r8), some (ZI 1), some (ZI x6_19)] dX12_likeFields_76 (by decide) rfl rfl ?_
                refine zr_iinc (pc := 78) hV [some (ZR 0), some (ZI one), some (ZI other), some (ZI r2), some (ZI r8), some (ZI 1), some (ZI (x6_19 + 1))] (x6_19 + 1) dX12_likeFields_78 rfl rfl (by decide) rfl rfl ?_
                refine zr_goto (pc := 81) hV 19 dX12_likeFields_81 (by decide) ?_
                exact ih19 1 (x6_19 + 1) (by omega) (by omega) (by omega)
  exact L19 (4 - (0 : Int) + 1 : Int).toNat 1 0 (by omega) (by omega) (by omega)
set_option maxHeartbeats 800000 in
theorem c_X12_pairsOf {σ : zq_S} (hσ : zx_T σ) (a c end_ : Int) (q0 : 0 ≤ a ∧ a < σ 0 3) (q1 : 0 ≤ c ∧ c < σ 0 3) (q2 : 0 ≤ end_ ∧ end_ ≤ 64) (Mσ : zx_M σ) (Oσ : zx_O σ) : zq_C zx_w yX12_pairsOf cX12_pairsOf 7 (some .int) 4 95 41 41 [ZR 0, ZI a, ZI c, ZI end_] σ (zq_pi (fun r τ => zx_T τ ∧ (∀ a i : Int, (¬ (a = 0 ∧ i = 30) ∧ a ≠ 18) → τ a i = σ a i) ∧ (True) ∧ zx_M τ ∧ zx_O τ)) := by
  refine zq_C_of (by decide) (Nat.le_refl _) (Nat.le_of_ble_eq_true rfl) [some (ZR 0), some (ZI a), some (ZI c), some (ZI end_), none, none, none] rfl (fun V hV => ?_)
  have z3 := zx_g3 hσ
  show V 0 [some (ZR 0), some (ZI a), some (ZI c), some (ZI end_), none, none, none] [] 41 σ
  refine zr_iconst (pc := 0) hV 0 dX12_pairsOf_0 rfl ?_
  refine zr_istore (pc := 1) hV [some (ZR 0), some (ZI a), some (ZI c), some (ZI end_), some (ZI 0), none, none] dX12_pairsOf_1 (by decide) rfl rfl ?_
  refine zr_iconst (pc := 3) hV 0 dX12_pairsOf_3 rfl ?_
  refine zr_istore (pc := 4) hV [some (ZR 0), some (ZI a), some (ZI c), some (ZI end_), some (ZI 0), some (ZI 0), none] dX12_pairsOf_4 (by decide) rfl rfl ?_
  have L6 : ∀ (fuel : Nat) (x4_6 : Int) (x5_6 : Int) (σ_6 : zq_S), ((-2147483648) ≤ x4_6 ∧ x4_6 ≤ 2147483647) → (0 ≤ x5_6 ∧ x5_6 ≤ 64) → (zx_T σ_6) → (∀ a i : Int, (¬ (a = 0 ∧ i = 30) ∧ a ≠ 18) → σ_6 a i = σ a i) → (zx_M σ_6) → (zx_O σ_6) → 65 - x5_6 < (fuel : Int) → V 6 [some (ZR 0), some (ZI a), some (ZI c), some (ZI end_), some (ZI x4_6), some (ZI x5_6), none] [] 41 σ_6 := by
    intro fuel
    induction fuel with
    | zero =>
      intro x4_6 x5_6 σ_6 hx4_6 hx5_6 hσ_6 hFσ_6 Mσ_6 Oσ_6 hm6
      exfalso; omega
    | succ fuel ih =>
      intro x4_6 x5_6 σ_6 hx4_6 hx5_6 hσ_6 hFσ_6 Mσ_6 Oσ_6 hm6
      have ih6 := ih
      show V 6 [some (ZR 0), some (ZI a), some (ZI c), some (ZI end_), some (ZI x4_6), some (ZI x5_6), none] [] 41 σ_6
      refine zr_iload (pc := 6) hV dX12_pairsOf_6 rfl ?_
      refine zr_iconst (pc := 8) hV 1 dX12_pairsOf_8 rfl ?_
      refine zr_iadd (pc := 9) hV dX12_pairsOf_9 ?_
      refine zr_iload_n (pc := 10) hV dX12_pairsOf_10 rfl rfl ?_
      refine zr_icmp_ge (pc := 11) hV 109 dX12_pairsOf_11 (by decide) (by omega) (by omega) (fun c1 => ?_) (fun c1 => ?_)
      · show V 109 [some (ZR 0), some (ZI a), some (ZI c), some (ZI end_), some (ZI x4_6), some (ZI x5_6), none] [] 41 σ_6
        refine zr_iload (pc := 109) hV dX12_pairsOf_109 rfl ?_
        exact zr_iret (pc := 111) hV dX12_pairsOf_111 rfl rfl ⟨_, rfl, (by omega), hσ_6, hFσ_6, trivial, Mσ_6, Oσ_6⟩
      · show V 14 [some (ZR 0), some (ZI a), some (ZI c), some (ZI end_), some (ZI x4_6), some (ZI x5_6), none] [] 41 σ_6
        refine zr_aload_n (pc := 14) hV dX12_pairsOf_14 rfl rfl ?_
        refine zr_aload_n (pc := 15) hV dX12_pairsOf_15 rfl rfl ?_
        refine zr_getR (pc := 16) hV 23 14 dX12_pairsOf_16 fX12_59 rfl rfl rfl (by decide) (zx_g23 hσ_6) (by omega) ?_
        refine zr_iload (pc := 19) hV dX12_pairsOf_19 rfl ?_
        refine zr_iald (pc := 21) hV dX12_pairsOf_21 rfl (by decide) rfl (by omega) ?_
        have t2 := zx_ga14 hσ_6 x5_6
        have t3 : σ_6 14 x5_6 = σ 14 x5_6 := hFσ_6 _ _ (by omega)
        refine zr_callVi (pc := 22) hV [ZI (σ_6 14 x5_6)] (st := []) (c_X12_ownerOf (σ := σ_6) hσ_6 (σ_6 14 x5_6) (by omega) Mσ_6) dX12_pairsOf_22 mX12_283 rfl (by decide) (by decide) (Nat.le_of_ble_eq_true rfl) (Nat.le_refl _) (fun r22 σ22 hr22 pσ22 => ?_)
        obtain ⟨hσ22, hfσ22, pσ22⟩ := pσ22
        have Mσ22 : zx_M σ22 := pσ22.2.2.2.2.2
        have Oσ22 : zx_O σ22 := zx_O_fr (fun i => hfσ22 2 i (by omega)) (fun i => hfσ22 5 i (by omega)) (fun i => hfσ22 6 i (by omega)) (hfσ22 0 2 (by omega)) (hfσ22 0 3 (by omega)) Oσ_6
        have hFσ22 : ∀ a i : Int, (¬ (a = 0 ∧ i = 30) ∧ a ≠ 18) → σ22 a i = σ a i := fun a i h => (hfσ22 a i ⟨h.1, h.2⟩).trans (hFσ_6 a i h)
        have t4 := zx_g30 hσ_6
        have t5 := zx_g30 hσ22
        refine zr_iload_n (pc := 25) hV dX12_pairsOf_25 rfl rfl ?_
        have J74 : ∀ (v0_74 : Int) (σ_74 : zq_S), (0 ≤ v0_74 ∧ v0_74 ≤ 1) → (zx_T σ_74) → (∀ a i : Int, (¬ (a = 0 ∧ i = 30) ∧ a ≠ 18) → σ_74 a i = σ a i) → (zx_M σ_74) → (zx_O σ_74) → V 74 [some (ZR 0), some (ZI a), some (ZI c), some (ZI end_), some (ZI x4_6), some (ZI x5_6), none] [ZI v0_74] 41 σ_74 := by
          intro v0_74 σ_74 hv0_74 hσ_74 hFσ_74 Mσ_74 Oσ_74
          show V 74 [some (ZR 0), some (ZI a), some (ZI c), some (ZI end_), some (ZI x4_6), some (ZI x5_6), none] [ZI v0_74] 41 σ_74
          refine zr_istore (pc := 74) hV [some (ZR 0), some (ZI a), some (ZI c), some (ZI end_), some (ZI x4_6), some (ZI x5_6), some (ZI v0_74)] dX12_pairsOf_74 (by decide) rfl rfl ?_
          refine zr_iload (pc := 76) hV dX12_pairsOf_76 rfl ?_
          refine zr_iload (pc := 78) hV dX12_pairsOf_78 rfl ?_
          refine zr_if_eq (pc := 80) hV 87 dX12_pairsOf_80 (by decide) (by omega) (fun c6 => ?_) (fun c6 => ?_)
          · show V 87 [some (ZR 0), some (ZI a), some (ZI c), some (ZI end_), some (ZI x4_6), some (ZI x5_6), some (ZI v0_74)] [ZI x4_6] 41 σ_74
            refine zr_iconst (pc := 87) hV 0 dX12_pairsOf_87 rfl ?_
            show V 88 [some (ZR 0), some (ZI a), some (ZI c), some (ZI end_), some (ZI x4_6), some (ZI x5_6), some (ZI v0_74)] [ZI 0, ZI x4_6] 41 σ_74
            refine zr_iadd (pc := 88) hV dX12_pairsOf_88 ?_
            refine zr_istore (pc := 89) hV [some (ZR 0), some (ZI a), some (ZI c), some (ZI end_), some (ZI (x4_6 + 0)), some (ZI x5_6), some (ZI v0_74)] dX12_pairsOf_89 (by decide) rfl rfl ?_
            refine zr_iload (pc := 91) hV dX12_pairsOf_91 rfl ?_
            refine zr_iload (pc := 93) hV dX12_pairsOf_93 rfl ?_
            refine zr_if_eq (pc := 95) hV 102 dX12_pairsOf_95 (by decide) (by omega) (fun c7 => ?_) (fun c7 => ?_)
            · show V 102 [some (ZR 0), some (ZI a), some (ZI c), some (ZI end_), some (ZI (x4_6 + 0)), some (ZI x5_6), some (ZI v0_74)] [ZI x5_6] 41 σ_74
              refine zr_iconst (pc := 102) hV 1 dX12_pairsOf_102 rfl ?_
              show V 103 [some (ZR 0), some (ZI a), some (ZI c), some (ZI end_), some (ZI (x4_6 + 0)), some (ZI x5_6), some (ZI v0_74)] [ZI 1, ZI x5_6] 41 σ_74
              refine zr_iadd (pc := 103) hV dX12_pairsOf_103 ?_
              refine zr_istore (pc := 104) hV [some (ZR 0), some (ZI a), some (ZI c), some (ZI end_), some (ZI (x4_6 + 0)), some (ZI (x5_6 + 1)), some (ZI v0_74)] dX12_pairsOf_104 (by decide) rfl rfl ?_
              refine zr_goto (pc := 106) hV 6 dX12_pairsOf_106 (by decide) ?_
              refine zr_sub (pc := 6) hV [some (ZR 0), some (ZI a), some (ZI c), some (ZI end_), some (ZI (x4_6 + 0)), some (ZI (x5_6 + 1)), none] (⟨rfl, rfl, rfl, rfl, rfl, rfl, trivial⟩) ?_
              exact ih6 (x4_6 + 0) (x5_6 + 1) σ_74 (by omega) (by omega) hσ_74 hFσ_74 Mσ_74 Oσ_74 (by omega)
            · exfalso; omega
          · show V 83 [some (ZR 0), some (ZI a), some (ZI c), some (ZI end_), some (ZI x4_6), some (ZI x5_6), some (ZI v0_74)] [ZI x4_6] 41 σ_74
            refine zr_iconst (pc := 83) hV 1 dX12_pairsOf_83 rfl ?_
            refine zr_goto (pc := 84) hV 88 dX12_pairsOf_84 (by decide) ?_
            show V 88 [some (ZR 0), some (ZI a), some (ZI c), some (ZI end_), some (ZI x4_6), some (ZI x5_6), some (ZI v0_74)] [ZI 1, ZI x4_6] 41 σ_74
            refine zr_iadd (pc := 88) hV dX12_pairsOf_88 ?_
            refine zr_any (pc := 89) hV (fun y89 hy89 _ => ?_)
            refine zr_istore (pc := 89) hV [some (ZR 0), some (ZI a), some (ZI c), some (ZI end_), some (ZI y89), some (ZI x5_6), some (ZI v0_74)] dX12_pairsOf_89 (by decide) rfl rfl ?_
            refine zr_iload (pc := 91) hV dX12_pairsOf_91 rfl ?_
            refine zr_iload (pc := 93) hV dX12_pairsOf_93 rfl ?_
            refine zr_if_eq (pc := 95) hV 102 dX12_pairsOf_95 (by decide) (by omega) (fun c8 => ?_) (fun c8 => ?_)
            · exfalso; omega
            · show V 98 [some (ZR 0), some (ZI a), some (ZI c), some (ZI end_), some (ZI y89), some (ZI x5_6), some (ZI v0_74)] [ZI x5_6] 41 σ_74
              refine zr_iconst (pc := 98) hV 2 dX12_pairsOf_98 rfl ?_
              refine zr_goto (pc := 99) hV 103 dX12_pairsOf_99 (by decide) ?_
              show V 103 [some (ZR 0), some (ZI a), some (ZI c), some (ZI end_), some (ZI y89), some (ZI x5_6), some (ZI v0_74)] [ZI 2, ZI x5_6] 41 σ_74
              refine zr_iadd (pc := 103) hV dX12_pairsOf_103 ?_
              refine zr_istore (pc := 104) hV [some (ZR 0), some (ZI a), some (ZI c), some (ZI end_), some (ZI y89), some (ZI (x5_6 + 2)), some (ZI v0_74)] dX12_pairsOf_104 (by decide) rfl rfl ?_
              refine zr_goto (pc := 106) hV 6 dX12_pairsOf_106 (by decide) ?_
              refine zr_sub (pc := 6) hV [some (ZR 0), some (ZI a), some (ZI c), some (ZI end_), some (ZI y89), some (ZI (x5_6 + 2)), none] (⟨rfl, rfl, rfl, rfl, rfl, rfl, trivial⟩) ?_
              exact ih6 y89 (x5_6 + 2) σ_74 (by omega) (by omega) hσ_74 hFσ_74 Mσ_74 Oσ_74 (by omega)
        have J73 : ∀ (σ_73 : zq_S), (zx_T σ_73) → (∀ a i : Int, (¬ (a = 0 ∧ i = 30) ∧ a ≠ 18) → σ_73 a i = σ a i) → (zx_M σ_73) → (zx_O σ_73) → V 73 [some (ZR 0), some (ZI a), some (ZI c), some (ZI end_), some (ZI x4_6), some (ZI x5_6), none] [] 41 σ_73 := by
          intro σ_73 hσ_73 hFσ_73 Mσ_73 Oσ_73
          show V 73 [some (ZR 0), some (ZI a), some (ZI c), some (ZI end_), some (ZI x4_6), some (ZI x5_6), none] [] 41 σ_73
          refine zr_iconst (pc := 73) hV 0 dX12_pairsOf_73 rfl ?_
          exact J74 0 σ_73 (by omega) hσ_73 hFσ_73 Mσ_73 Oσ_73
        refine zr_icmp_ne (pc := 26) hV 73 dX12_pairsOf_26 (by decide) (by omega) (by omega) (fun c9 => ?_) (fun c9 => ?_)
        · exact J73 σ22 hσ22 hFσ22 Mσ22 Oσ22
        · show V 29 [some (ZR 0), some (ZI a), some (ZI c), some (ZI end_), some (ZI x4_6), some (ZI x5_6), none] [] 41 σ22
          refine zr_aload_n (pc := 29) hV dX12_pairsOf_29 rfl rfl ?_
          refine zr_aload_n (pc := 30) hV dX12_pairsOf_30 rfl rfl ?_
          refine zr_getR (pc := 31) hV 23 14 dX12_pairsOf_31 fX12_59 rfl rfl rfl (by decide) (zx_g23 hσ22) (by omega) ?_
          refine zr_iload (pc := 34) hV dX12_pairsOf_34 rfl ?_
          refine zr_iconst (pc := 36) hV 1 dX12_pairsOf_36 rfl ?_
          refine zr_iadd (pc := 37) hV dX12_pairsOf_37 ?_
          refine zr_iald (pc := 38) hV dX12_pairsOf_38 rfl (by decide) rfl (by omega) ?_
          have t10 := zx_ga14 hσ22 (x5_6 + 1)
          have t11 : σ22 14 (x5_6 + 1) = σ_6 14 (x5_6 + 1) := hfσ22 _ _ (by omega)
          have t12 : σ_6 14 (x5_6 + 1) = σ 14 (x5_6 + 1) := hFσ_6 _ _ (by omega)
          refine zr_callVi (pc := 39) hV [ZI (σ22 14 (x5_6 + 1))] (st := []) (c_X12_ownerOf (σ := σ22) hσ22 (σ22 14 (x5_6 + 1)) (by omega) Mσ22) dX12_pairsOf_39 mX12_283 rfl (by decide) (by decide) (Nat.le_of_ble_eq_true rfl) (Nat.le_refl _) (fun r39 σ39 hr39 pσ39 => ?_)
          obtain ⟨hσ39, hfσ39, pσ39⟩ := pσ39
          have Mσ39 : zx_M σ39 := pσ39.2.2.2.2.2
          have Oσ39 : zx_O σ39 := zx_O_fr (fun i => hfσ39 2 i (by omega)) (fun i => hfσ39 5 i (by omega)) (fun i => hfσ39 6 i (by omega)) (hfσ39 0 2 (by omega)) (hfσ39 0 3 (by omega)) Oσ22
          have hFσ39 : ∀ a i : Int, (¬ (a = 0 ∧ i = 30) ∧ a ≠ 18) → σ39 a i = σ a i := fun a i h => (hfσ39 a i ⟨h.1, h.2⟩).trans (hFσ22 a i h)
          have t13 := zx_g30 hσ22
          have t14 := zx_g30 hσ39
          refine zr_iload_n (pc := 42) hV dX12_pairsOf_42 rfl rfl ?_
          refine zr_icmp_ne (pc := 43) hV 73 dX12_pairsOf_43 (by decide) (by omega) (by omega) (fun c15 => ?_) (fun c15 => ?_)
          · exact J73 σ39 hσ39 hFσ39 Mσ39 Oσ39
          · show V 46 [some (ZR 0), some (ZI a), some (ZI c), some (ZI end_), some (ZI x4_6), some (ZI x5_6), none] [] 41 σ39
            refine zr_aload_n (pc := 46) hV dX12_pairsOf_46 rfl rfl ?_
            refine zr_aload_n (pc := 47) hV dX12_pairsOf_47 rfl rfl ?_
            refine zr_getR (pc := 48) hV 23 14 dX12_pairsOf_48 fX12_59 rfl rfl rfl (by decide) (zx_g23 hσ39) (by omega) ?_
            refine zr_iload (pc := 51) hV dX12_pairsOf_51 rfl ?_
            refine zr_iald (pc := 53) hV dX12_pairsOf_53 rfl (by decide) rfl (by omega) ?_
            have t16 := zx_ga14 hσ39 x5_6
            have t17 : σ39 14 x5_6 = σ22 14 x5_6 := hfσ39 _ _ (by omega)
            have t18 : σ22 14 x5_6 = σ_6 14 x5_6 := hfσ22 _ _ (by omega)
            have t19 : σ_6 14 x5_6 = σ 14 x5_6 := hFσ_6 _ _ (by omega)
            refine zr_aload_n (pc := 54) hV dX12_pairsOf_54 rfl rfl ?_
            refine zr_getR (pc := 55) hV 23 14 dX12_pairsOf_55 fX12_59 rfl rfl rfl (by decide) (zx_g23 hσ39) (by omega) ?_
            refine zr_iload (pc := 58) hV dX12_pairsOf_58 rfl ?_
            refine zr_iconst (pc := 60) hV 1 dX12_pairsOf_60 rfl ?_
            refine zr_iadd (pc := 61) hV dX12_pairsOf_61 ?_
            refine zr_iald (pc := 62) hV dX12_pairsOf_62 rfl (by decide) rfl (by omega) ?_
            have t20 := zx_ga14 hσ39 (x5_6 + 1)
            have t21 : σ39 14 (x5_6 + 1) = σ22 14 (x5_6 + 1) := hfσ39 _ _ (by omega)
            have t22 : σ22 14 (x5_6 + 1) = σ_6 14 (x5_6 + 1) := hfσ22 _ _ (by omega)
            have t23 : σ_6 14 (x5_6 + 1) = σ 14 (x5_6 + 1) := hFσ_6 _ _ (by omega)
            have w1 : σ39 14 x5_6 = σ_6 14 x5_6 := by rw [hfσ39 14 _ (by omega), hfσ22 14 _ (by omega)]
            have w2 : σ39 14 (x5_6 + 1) = σ22 14 (x5_6 + 1) := hfσ39 14 _ (by omega)
            have y1 : σ39 18 (σ39 14 x5_6) = σ22 18 (σ_6 14 x5_6) := by rw [w1]; exact pσ39.2.2.2.2.1 pσ22.2.2.2.1 _
            have y2 : σ39 18 (σ39 14 (x5_6 + 1)) = σ39 18 (σ22 14 (x5_6 + 1)) := by rw [w2]
            have y3 := pσ39.2.2.2.1
            have t24 := zx_g30 hσ39
            have t25 := zx_g3 hσ39
            have t26 : σ39 0 3 = σ22 0 3 := hfσ39 _ _ (by omega)
            have t27 : σ22 0 3 = σ_6 0 3 := hfσ22 _ _ (by omega)
            have t28 : σ_6 0 3 = σ 0 3 := hFσ_6 _ _ (by omega)
            have t29 := zx_g3 hσ39
            have t30 : σ39 0 3 = σ22 0 3 := hfσ39 _ _ (by omega)
            have t31 : σ22 0 3 = σ_6 0 3 := hfσ22 _ _ (by omega)
            have t32 : σ_6 0 3 = σ 0 3 := hFσ_6 _ _ (by omega)
            refine zr_callVi (pc := 63) hV [ZI (σ39 14 x5_6), ZI (σ39 14 (x5_6 + 1))] (st := []) (c_X12_likeFields (σ := σ39) hσ39 (σ39 14 x5_6) (σ39 14 (x5_6 + 1)) (by omega) (by omega) (by omega) (by omega) (by omega) Mσ39 Oσ39) dX12_pairsOf_63 mX12_462 rfl (by decide) (by decide) (Nat.le_of_ble_eq_true rfl) (Nat.le_refl _) (fun r63 σ63 hr63 pσ63 => ?_)
            obtain ⟨hσ63, hfσ63, pσ63, Mσ63, Oσ63⟩ := pσ63
            have hFσ63 : ∀ a i : Int, (¬ (a = 0 ∧ i = 30) ∧ a ≠ 18) → σ63 a i = σ a i := fun a i h => (hfσ63 a i ⟨h.1, h.2⟩).trans (hFσ39 a i h)
            refine zr_if_eq (pc := 66) hV 73 dX12_pairsOf_66 (by decide) (by omega) (fun c33 => ?_) (fun c33 => ?_)
            · exact J73 σ63 hσ63 hFσ63 Mσ63 Oσ63
            · show V 69 [some (ZR 0), some (ZI a), some (ZI c), some (ZI end_), some (ZI x4_6), some (ZI x5_6), none] [] 41 σ63
              refine zr_iconst (pc := 69) hV 1 dX12_pairsOf_69 rfl ?_
              refine zr_goto (pc := 70) hV 74 dX12_pairsOf_70 (by decide) ?_
              exact J74 1 σ63 (by omega) hσ63 hFσ63 Mσ63 Oσ63
  exact L6 (65 - (0 : Int) + 1 : Int).toNat 0 0 σ (by omega) (by omega) hσ (fun a i _ => rfl) Mσ Oσ (by omega)
set_option maxHeartbeats 800000 in
theorem c_X12_pairs {σ : zq_S} (hσ : zx_T σ) (a c end_ : Int) (q0 : zq_in a) (q1 : zq_in c) (q2 : zq_in end_) (Mσ : zx_M σ) (Oσ : zx_O σ) : zq_C zx_w yX12_pairs cX12_pairs 4 (some .int) 5 121 41 41 [ZR 0, ZI a, ZI c, ZI end_] σ (zq_pi (fun r τ => zx_T τ ∧ (∀ a i : Int, (¬ (a = 0 ∧ i = 30) ∧ a ≠ 18) → τ a i = σ a i) ∧ (True) ∧ zx_M τ ∧ zx_O τ)) := by
  refine zq_C_of (by decide) (Nat.le_refl _) (Nat.le_of_ble_eq_true rfl) [some (ZR 0), some (ZI a), some (ZI c), some (ZI end_)] rfl (fun V hV => ?_)
  show V 0 [some (ZR 0), some (ZI a), some (ZI c), some (ZI end_)] [] 41 σ
  refine zr_aload_n (pc := 0) hV dX12_pairs_0 rfl rfl ?_
  refine zr_iload_n (pc := 1) hV dX12_pairs_1 rfl rfl ?_
  refine zr_callVp (pc := 2) hV [ZI a] (st := []) (c_X12_isOrder (σ := σ) hσ a (by omega)) dX12_pairs_2 mX12_271 rfl (by decide) (by decide) (Nat.le_of_ble_eq_true rfl) (Nat.le_refl _) (fun r2 hr2 pr2 => ?_)
  have t1 := zx_g3 hσ
  refine zr_if_eq (pc := 5) hV 38 dX12_pairs_5 (by decide) (by omega) (fun c2 => ?_) (fun c2 => ?_)
  · show V 38 [some (ZR 0), some (ZI a), some (ZI c), some (ZI end_)] [] 41 σ
    refine zr_iconst (pc := 38) hV (-1) dX12_pairs_38 rfl ?_
    show V 39 [some (ZR 0), some (ZI a), some (ZI c), some (ZI end_)] [ZI (-1)] 41 σ
    exact zr_iret (pc := 39) hV dX12_pairs_39 rfl rfl ⟨_, rfl, ⟨by decide, by decide⟩, hσ, (fun a i _ => rfl), trivial, Mσ, Oσ⟩
  · show V 8 [some (ZR 0), some (ZI a), some (ZI c), some (ZI end_)] [] 41 σ
    refine zr_aload_n (pc := 8) hV dX12_pairs_8 rfl rfl ?_
    refine zr_iload_n (pc := 9) hV dX12_pairs_9 rfl rfl ?_
    refine zr_callVp (pc := 10) hV [ZI c] (st := []) (c_X12_isOrder (σ := σ) hσ c (by omega)) dX12_pairs_10 mX12_271 rfl (by decide) (by decide) (Nat.le_of_ble_eq_true rfl) (Nat.le_refl _) (fun r10 hr10 pr10 => ?_)
    have t3 := zx_g3 hσ
    refine zr_if_eq (pc := 13) hV 38 dX12_pairs_13 (by decide) (by omega) (fun c4 => ?_) (fun c4 => ?_)
    · show V 38 [some (ZR 0), some (ZI a), some (ZI c), some (ZI end_)] [] 41 σ
      refine zr_iconst (pc := 38) hV (-1) dX12_pairs_38 rfl ?_
      show V 39 [some (ZR 0), some (ZI a), some (ZI c), some (ZI end_)] [ZI (-1)] 41 σ
      exact zr_iret (pc := 39) hV dX12_pairs_39 rfl rfl ⟨_, rfl, ⟨by decide, by decide⟩, hσ, (fun a i _ => rfl), trivial, Mσ, Oσ⟩
    · show V 16 [some (ZR 0), some (ZI a), some (ZI c), some (ZI end_)] [] 41 σ
      refine zr_iload_n (pc := 16) hV dX12_pairs_16 rfl rfl ?_
      refine zr_i2l (pc := 17) hV dX12_pairs_17 (by omega) ?_
      refine zr_lconst (pc := 18) hV 0 dX12_pairs_18 (by decide) ?_
      refine zr_ldc2 (pc := 19) (v := 64) hV 64 dX12_pairs_19 kX12_465 (by decide) ?_
      refine zr_callSp (pc := 22) hV [ZL end_, ZL 0, ZL 64] (st := []) (c_X12_in (σ := σ) end_ 0 64 (by omega) (by omega) (by omega)) dX12_pairs_22 mX12_170 (by decide) (Nat.le_of_ble_eq_true rfl) (Nat.le_refl _) (fun r22 hr22 pr22 => ?_)
      refine zr_if_eq (pc := 25) hV 38 dX12_pairs_25 (by decide) (by omega) (fun c5 => ?_) (fun c5 => ?_)
      · show V 38 [some (ZR 0), some (ZI a), some (ZI c), some (ZI end_)] [] 41 σ
        refine zr_iconst (pc := 38) hV (-1) dX12_pairs_38 rfl ?_
        show V 39 [some (ZR 0), some (ZI a), some (ZI c), some (ZI end_)] [ZI (-1)] 41 σ
        exact zr_iret (pc := 39) hV dX12_pairs_39 rfl rfl ⟨_, rfl, ⟨by decide, by decide⟩, hσ, (fun a i _ => rfl), trivial, Mσ, Oσ⟩
      · show V 28 [some (ZR 0), some (ZI a), some (ZI c), some (ZI end_)] [] 41 σ
        refine zr_aload_n (pc := 28) hV dX12_pairs_28 rfl rfl ?_
        refine zr_iload_n (pc := 29) hV dX12_pairs_29 rfl rfl ?_
        refine zr_iload_n (pc := 30) hV dX12_pairs_30 rfl rfl ?_
        refine zr_iload_n (pc := 31) hV dX12_pairs_31 rfl rfl ?_
        have t6 := zx_g3 hσ
        have t7 := zx_g3 hσ
        refine zr_callVi (pc := 32) hV [ZI a, ZI c, ZI end_] (st := []) (c_X12_pairsOf (σ := σ) hσ a c end_ (by omega) (by omega) (by omega) Mσ Oσ) dX12_pairs_32 mX12_467 rfl (by decide) (by decide) (Nat.le_of_ble_eq_true rfl) (Nat.le_refl _) (fun r32 σ32 hr32 pσ32 => ?_)
        obtain ⟨hσ32, hfσ32, pσ32, Mσ32, Oσ32⟩ := pσ32
        have hFσ32 : ∀ a i : Int, (¬ (a = 0 ∧ i = 30) ∧ a ≠ 18) → σ32 a i = σ a i := fun a i h => (hfσ32 a i ⟨h.1, h.2⟩)
        refine zr_goto (pc := 35) hV 39 dX12_pairs_35 (by decide) ?_
        show V 39 [some (ZR 0), some (ZI a), some (ZI c), some (ZI end_)] [ZI r32] 41 σ32
        exact zr_iret (pc := 39) hV dX12_pairs_39 rfl rfl ⟨_, rfl, (by omega), hσ32, hFσ32, trivial, Mσ32, Oσ32⟩
set_option maxHeartbeats 800000 in
theorem c_X12_roomFor {σ : zq_S} (hσ : zx_T σ) (a c : Int) (q0 : 0 ≤ a ∧ a < σ 0 3) (q1 : 0 ≤ c ∧ c < σ 0 3) (Mσ : zx_M σ) (Oσ : zx_O σ) : zq_C zx_w yX12_roomFor cX12_roomFor 11 (some .int) 3 69 41 41 [ZR 0, ZI a, ZI c] σ (zq_pi (fun r τ => zx_T τ ∧ (∀ a i : Int, (¬ (a = 0 ∧ i = 30) ∧ ¬ (a = 0 ∧ i = 61) ∧ a ≠ 18) → τ a i = σ a i) ∧ (-2 ≤ r ∧ r ≤ 4095) ∧ zx_M τ ∧ zx_O τ)) := by
  refine zq_C_of (by decide) (Nat.le_refl _) (Nat.le_of_ble_eq_true rfl) [some (ZR 0), some (ZI a), some (ZI c), none, none, none, none, none, none, none, none] rfl (fun V hV => ?_)
  have z3 := zx_g3 hσ
  show V 0 [some (ZR 0), some (ZI a), some (ZI c), none, none, none, none, none, none, none, none] [] 41 σ
  refine zr_aload_n (pc := 0) hV dX12_roomFor_0 rfl rfl ?_
  refine zr_iload_n (pc := 1) hV dX12_roomFor_1 rfl rfl ?_
  refine zr_callVp (pc := 2) hV [ZI a] (st := []) (c_X12_namesOf (σ := σ) hσ a (by omega) (Oσ a (by omega) (by omega)).1) dX12_roomFor_2 mX12_332 rfl (by decide) (by decide) (Nat.le_of_ble_eq_true rfl) (Nat.le_refl _) (fun r2 hr2 pr2 => ?_)
  refine zr_aload_n (pc := 5) hV dX12_roomFor_5 rfl rfl ?_
  refine zr_iload_n (pc := 6) hV dX12_roomFor_6 rfl rfl ?_
  refine zr_callVp (pc := 7) hV [ZI c] (st := [ZI r2]) (c_X12_namesOf (σ := σ) hσ c (by omega) (Oσ c (by omega) (by omega)).1) dX12_roomFor_7 mX12_332 rfl (by decide) (by decide) (Nat.le_of_ble_eq_true rfl) (Nat.le_refl _) (fun r7 hr7 pr7 => ?_)
  refine zr_ior (pc := 10) hV dX12_roomFor_10 ?_
  have t1 := zq_or_in r2 r7
  refine zr_istore_n (pc := 11) hV [some (ZR 0), some (ZI a), some (ZI c), some (ZI (zq_or r2 r7)), none, none, none, none, none, none, none] dX12_roomFor_11 rfl (by decide) rfl rfl ?_
  refine zr_aload_n (pc := 12) hV dX12_roomFor_12 rfl rfl ?_
  refine zr_iload_n (pc := 13) hV dX12_roomFor_13 rfl rfl ?_
  refine zr_iconst (pc := 14) hV 3 dX12_roomFor_14 rfl ?_
  refine zr_callVp (pc := 15) hV [ZI a, ZI 3] (st := []) (c_X12_fieldBits (σ := σ) hσ a 3 (by omega) (by omega)) dX12_roomFor_15 mX12_184 rfl (by decide) (by decide) (Nat.le_of_ble_eq_true rfl) (Nat.le_refl _) (fun r15 hr15 pr15 => ?_)
  have t2 := zx_g2 hσ
  refine zr_istore (pc := 18) hV [some (ZR 0), some (ZI a), some (ZI c), some (ZI (zq_or r2 r7)), some (ZI r15), none, none, none, none, none, none] dX12_roomFor_18 (by decide) rfl rfl ?_
  refine zr_aload_n (pc := 20) hV dX12_roomFor_20 rfl rfl ?_
  refine zr_iload_n (pc := 21) hV dX12_roomFor_21 rfl rfl ?_
  refine zr_iconst (pc := 22) hV 3 dX12_roomFor_22 rfl ?_
  refine zr_callVp (pc := 23) hV [ZI c, ZI 3] (st := []) (c_X12_fieldBits (σ := σ) hσ c 3 (by omega) (by omega)) dX12_roomFor_23 mX12_184 rfl (by decide) (by decide) (Nat.le_of_ble_eq_true rfl) (Nat.le_refl _) (fun r23 hr23 pr23 => ?_)
  have t3 := zx_g2 hσ
  refine zr_istore (pc := 26) hV [some (ZR 0), some (ZI a), some (ZI c), some (ZI (zq_or r2 r7)), some (ZI r15), some (ZI r23), none, none, none, none, none] dX12_roomFor_26 (by decide) rfl rfl ?_
  refine zr_aload_n (pc := 28) hV dX12_roomFor_28 rfl rfl ?_
  refine zr_getR (pc := 29) hV 6 3 dX12_roomFor_29 fX12_26 rfl rfl rfl (by decide) (zx_g6 hσ) (by omega) ?_
  refine zr_iload_n (pc := 32) hV dX12_roomFor_32 rfl rfl ?_
  refine zr_iald (pc := 33) hV dX12_roomFor_33 rfl (by decide) rfl (by omega) ?_
  have t4 := zx_ga3 hσ a
  have J110 : ∀ (v0_110 : Int), (0 ≤ v0_110 ∧ v0_110 ≤ 1) → V 110 [some (ZR 0), some (ZI a), some (ZI c), none, some (ZI r15), some (ZI r23), none, none, none, none, none] [ZI v0_110] 41 σ := by
    intro v0_110 hv0_110
    show V 110 [some (ZR 0), some (ZI a), some (ZI c), none, some (ZI r15), some (ZI r23), none, none, none, none, none] [ZI v0_110] 41 σ
    refine zr_istore (pc := 110) hV [some (ZR 0), some (ZI a), some (ZI c), none, some (ZI r15), some (ZI r23), some (ZI v0_110), none, none, none, none] dX12_roomFor_110 (by decide) rfl rfl ?_
    refine zr_iload (pc := 112) hV dX12_roomFor_112 rfl ?_
    refine zr_if_ne (pc := 114) hV 120 dX12_roomFor_114 (by decide) (by omega) (fun c5 => ?_) (fun c5 => ?_)
    · show V 120 [some (ZR 0), some (ZI a), some (ZI c), none, some (ZI r15), some (ZI r23), some (ZI v0_110), none, none, none, none] [] 41 σ
      refine zr_aload_n (pc := 120) hV dX12_roomFor_120 rfl rfl ?_
      refine zr_iload_n (pc := 121) hV dX12_roomFor_121 rfl rfl ?_
      refine zr_callVp (pc := 122) hV [ZI a] (st := []) (c_X12_fieldMask (σ := σ) hσ a (by omega)) dX12_roomFor_122 mX12_274 rfl (by decide) (by decide) (Nat.le_of_ble_eq_true rfl) (Nat.le_refl _) (fun r122 hr122 pr122 => ?_)
      refine zr_aload_n (pc := 125) hV dX12_roomFor_125 rfl rfl ?_
      refine zr_iload_n (pc := 126) hV dX12_roomFor_126 rfl rfl ?_
      refine zr_callVp (pc := 127) hV [ZI c] (st := [ZI r122]) (c_X12_fieldMask (σ := σ) hσ c (by omega)) dX12_roomFor_127 mX12_274 rfl (by decide) (by decide) (Nat.le_of_ble_eq_true rfl) (Nat.le_refl _) (fun r127 hr127 pr127 => ?_)
      refine zr_ior (pc := 130) hV dX12_roomFor_130 ?_
      have t6 := zq_or_in r122 r127
      refine zr_istore (pc := 131) hV [some (ZR 0), some (ZI a), some (ZI c), none, some (ZI r15), some (ZI r23), some (ZI v0_110), some (ZI (zq_or r122 r127)), none, none, none] dX12_roomFor_131 (by decide) rfl rfl ?_
      refine zr_aload_n (pc := 133) hV dX12_roomFor_133 rfl rfl ?_
      refine zr_iload (pc := 134) hV dX12_roomFor_134 rfl ?_
      refine zr_bipush (pc := 136) hV 8 dX12_roomFor_136 (by decide) ?_
      refine zr_iand (pc := 138) hV dX12_roomFor_138 ?_
      have t7 := zq_and_nnR (x := zq_or r122 r127) (y := 8) (by omega)
      refine zr_if_eq (pc := 139) hV 157 dX12_roomFor_139 (by decide) (by omega) (fun c8 => ?_) (fun c8 => ?_)
      · show V 157 [some (ZR 0), some (ZI a), some (ZI c), none, some (ZI r15), some (ZI r23), some (ZI v0_110), some (ZI (zq_or r122 r127)), none, none, none] [ZR 0] 41 σ
        refine zr_iconst (pc := 157) hV 0 dX12_roomFor_157 rfl ?_
        show V 158 [some (ZR 0), some (ZI a), some (ZI c), none, some (ZI r15), some (ZI r23), some (ZI v0_110), some (ZI (zq_or r122 r127)), none, none, none] [ZI 0, ZR 0] 41 σ
        refine zr_putI (pc := 158) hV 61 dX12_roomFor_158 fX12_470 rfl rfl rfl rfl (by decide) (fun σ158 eσ158 => ?_)
        have hσ158 : zx_T σ158 := zx_u61 eσ158 hσ (by omega)
        have hFσ158 : ∀ a i : Int, (¬ (a = 0 ∧ i = 30) ∧ ¬ (a = 0 ∧ i = 61) ∧ a ≠ 18) → σ158 a i = σ a i := fun a i h => by rw [eσ158, zq_up_ne h.2.1]
        have Mσ158 : zx_M σ158 := zx_M_fr (fun i => by rw [eσ158]; exact zq_up_ne (by omega)) (by rw [eσ158]; exact zq_up_ne (by omega)) (by rw [eσ158]; exact zq_up_ne (by omega)) (by rw [eσ158]; exact zq_up_ne (by omega)) Mσ
        have Oσ158 : zx_O σ158 := zx_O_fr (fun i => by rw [eσ158]; exact zq_up_ne (by omega)) (fun i => by rw [eσ158]; exact zq_up_ne (by omega)) (fun i => by rw [eσ158]; exact zq_up_ne (by omega)) (by rw [eσ158]; exact zq_up_ne (by omega)) (by rw [eσ158]; exact zq_up_ne (by omega)) Oσ
        refine zr_iconst (pc := 161) hV 0 dX12_roomFor_161 rfl ?_
        refine zr_istore (pc := 162) hV [some (ZR 0), some (ZI a), some (ZI c), none, some (ZI r15), some (ZI r23), some (ZI v0_110), some (ZI (zq_or r122 r127)), some (ZI 0), none, none] dX12_roomFor_162 (by decide) rfl rfl ?_
        have L164 : ∀ (fuel : Nat) (x8_164 : Int) (σ_164 : zq_S), (0 ≤ x8_164 ∧ x8_164 ≤ 3) → (zx_T σ_164) → (∀ a i : Int, (¬ (a = 0 ∧ i = 30) ∧ ¬ (a = 0 ∧ i = 61) ∧ a ≠ 18) → σ_164 a i = σ a i) → (zx_M σ_164) → (zx_O σ_164) → (0 ≤ σ_164 0 61) → (σ_164 0 61 ≤ 12 + 3 * x8_164) → 3 - x8_164 < (fuel : Int) → V 164 [some (ZR 0), none, none, none, none, none, none, some (ZI (zq_or r122 r127)), some (ZI x8_164), none, none] [] 41 σ_164 := by
          intro fuel
          induction fuel with
          | zero =>
            intro x8_164 σ_164 hx8_164 hσ_164 hFσ_164 Mσ_164 Oσ_164 hi164_0 hi164_1 hm164
            exfalso; omega
          | succ fuel ih =>
            intro x8_164 σ_164 hx8_164 hσ_164 hFσ_164 Mσ_164 Oσ_164 hi164_0 hi164_1 hm164
            have ih164 := ih
            show V 164 [some (ZR 0), none, none, none, none, none, none, some (ZI (zq_or r122 r127)), some (ZI x8_164), none, none] [] 41 σ_164
            refine zr_iload (pc := 164) hV dX12_roomFor_164 rfl ?_
            refine zr_iconst (pc := 166) hV 3 dX12_roomFor_166 rfl ?_
            refine zr_icmp_ge (pc := 167) hV 197 dX12_roomFor_167 (by decide) (by omega) ⟨by decide, by decide⟩ (fun c9 => ?_) (fun c9 => ?_)
            · show V 197 [some (ZR 0), none, none, none, none, none, none, some (ZI (zq_or r122 r127)), some (ZI x8_164), none, none] [] 41 σ_164
              refine zr_aload_n (pc := 197) hV dX12_roomFor_197 rfl rfl ?_
              refine zr_getI (pc := 198) hV 61 dX12_roomFor_198 fX12_470 rfl rfl rfl (by decide) ?_
              have t10 := zx_g61 hσ_164
              refine zr_aload_n (pc := 201) hV dX12_roomFor_201 rfl rfl ?_
              refine zr_getI (pc := 202) hV 2 dX12_roomFor_202 fX12_16 rfl rfl rfl (by decide) ?_
              have t11 := zx_g2 hσ_164
              have t12 : σ_164 0 2 = σ 0 2 := hFσ_164 _ _ (by omega)
              refine zr_icmp_lt (pc := 205) hV 211 dX12_roomFor_205 (by decide) (by omega) (by omega) (fun c13 => ?_) (fun c13 => ?_)
              · show V 211 [some (ZR 0), none, none, none, none, none, none, some (ZI (zq_or r122 r127)), some (ZI x8_164), none, none] [] 41 σ_164
                refine zr_iconst (pc := 211) hV 0 dX12_roomFor_211 rfl ?_
                refine zr_istore (pc := 212) hV [some (ZR 0), none, none, none, none, none, none, some (ZI (zq_or r122 r127)), some (ZI 0), none, none] dX12_roomFor_212 (by decide) rfl rfl ?_
                have t14 := zx_g61 hσ_164
                have L214 : ∀ (fuel : Nat) (x8_214 : Int) (σ_214 : zq_S), (0 ≤ x8_214 ∧ x8_214 ≤ 4096) → (zx_T σ_214) → (∀ a i : Int, (¬ (a = 0 ∧ i = 30) ∧ ¬ (a = 0 ∧ i = 61) ∧ a ≠ 18) → σ_214 a i = σ a i) → (zx_M σ_214) → (zx_O σ_214) → (σ_214 0 61 = σ_164 0 61) → (zx_p2 (σ_214 0 61) ∣ x8_214) → 4096 - x8_214 < (fuel : Int) → V 214 [some (ZR 0), none, none, none, none, none, none, none, some (ZI x8_214), none, none] [] 41 σ_214 := by
                  intro fuel
                  induction fuel with
                  | zero =>
                    intro x8_214 σ_214 hx8_214 hσ_214 hFσ_214 Mσ_214 Oσ_214 hi214_0 hi214_1 hm214
                    exfalso; omega
                  | succ fuel ih =>
                    intro x8_214 σ_214 hx8_214 hσ_214 hFσ_214 Mσ_214 Oσ_214 hi214_0 hi214_1 hm214
                    have ih214 := ih
                    show V 214 [some (ZR 0), none, none, none, none, none, none, none, some (ZI x8_214), none, none] [] 41 σ_214
                    refine zr_iload (pc := 214) hV dX12_roomFor_214 rfl ?_
                    refine zr_iconst (pc := 216) hV 1 dX12_roomFor_216 rfl ?_
                    refine zr_aload_n (pc := 217) hV dX12_roomFor_217 rfl rfl ?_
                    refine zr_getI (pc := 218) hV 2 dX12_roomFor_218 fX12_16 rfl rfl rfl (by decide) ?_
                    have t15 := zx_g2 hσ_214
                    have t16 : σ_214 0 2 = σ 0 2 := hFσ_214 _ _ (by omega)
                    refine zr_ishl (pc := 221) hV dX12_roomFor_221 ?_
                    have t17 := zx_shl_one (y := σ_214 0 2) 12 4096 (by decide) (by decide) (by omega)
                    refine zr_icmp_ge (pc := 222) hV 295 dX12_roomFor_222 (by decide) (by omega) (by omega) (fun c18 => ?_) (fun c18 => ?_)
                    · show V 295 [some (ZR 0), none, none, none, none, none, none, none, some (ZI x8_214), none, none] [] 41 σ_214
                      refine zr_bipush (pc := 295) hV (-2) dX12_roomFor_295 (by decide) ?_
                      exact zr_iret (pc := 297) hV dX12_roomFor_297 rfl rfl ⟨_, rfl, ⟨by decide, by decide⟩, hσ_214, hFσ_214, (by omega), Mσ_214, Oσ_214⟩
                    · show V 225 [some (ZR 0), none, none, none, none, none, none, none, some (ZI x8_214), none, none] [] 41 σ_214
                      have hb1 := zx_blk hi214_1 (show x8_214 < zx_p2 (σ_214 0 2) by omega) (by omega) (by omega)
                      have hb2 := zx_p2_le (m := σ_214 0 2) (n := 12) (by omega)
                      have hb3 := zx_p2_12
                      refine zr_iconst (pc := 225) hV 1 dX12_roomFor_225 rfl ?_
                      refine zr_istore (pc := 226) hV [some (ZR 0), none, none, none, none, none, none, none, some (ZI x8_214), some (ZI 1), none] dX12_roomFor_226 (by decide) rfl rfl ?_
                      refine zr_iload (pc := 228) hV dX12_roomFor_228 rfl ?_
                      refine zr_istore (pc := 230) hV [some (ZR 0), none, none, none, none, none, none, none, some (ZI x8_214), some (ZI 1), some (ZI x8_214)] dX12_roomFor_230 (by decide) rfl rfl ?_
                      have t19 := zx_g61 hσ_214
                      have L232 : ∀ (fuel : Nat) (x10_232 : Int) (x9_232 : Int) (σ_232 : zq_S), (0 ≤ x10_232 ∧ x10_232 ≤ 4096) → (0 ≤ x9_232 ∧ x9_232 ≤ 1) → (zx_T σ_232) → (∀ a i : Int, (¬ (a = 0 ∧ i = 30) ∧ ¬ (a = 0 ∧ i = 61) ∧ a ≠ 18) → σ_232 a i = σ a i) → (zx_M σ_232) → (zx_O σ_232) → (x8_214 ≤ x10_232) → (σ_232 0 61 = σ_214 0 61) → 4096 - x10_232 < (fuel : Int) → V 232 [some (ZR 0), none, none, none, none, none, none, none, some (ZI x8_214), some (ZI x9_232), some (ZI x10_232)] [] 41 σ_232 := by
                        intro fuel
                        induction fuel with
                        | zero =>
                          intro x10_232 x9_232 σ_232 hx10_232 hx9_232 hσ_232 hFσ_232 Mσ_232 Oσ_232 hi232_0 hi232_1 hm232
                          exfalso; omega
                        | succ fuel ih =>
                          intro x10_232 x9_232 σ_232 hx10_232 hx9_232 hσ_232 hFσ_232 Mσ_232 Oσ_232 hi232_0 hi232_1 hm232
                          have ih232 := ih
                          have cg : zx_p2 (σ_232 0 61) = zx_p2 (σ_214 0 61) := by rw [hi232_1]
                          show V 232 [some (ZR 0), none, none, none, none, none, none, none, some (ZI x8_214), some (ZI x9_232), some (ZI x10_232)] [] 41 σ_232
                          refine zr_iload (pc := 232) hV dX12_roomFor_232 rfl ?_
                          refine zr_iload (pc := 234) hV dX12_roomFor_234 rfl ?_
                          refine zr_iconst (pc := 236) hV 1 dX12_roomFor_236 rfl ?_
                          refine zr_aload_n (pc := 237) hV dX12_roomFor_237 rfl rfl ?_
                          refine zr_getI (pc := 238) hV 61 dX12_roomFor_238 fX12_470 rfl rfl rfl (by decide) ?_
                          have t20 := zx_g61 hσ_232
                          refine zr_ishl (pc := 241) hV dX12_roomFor_241 ?_
                          have t21 := zx_shl_one (y := σ_232 0 61) 11 2048 (by decide) (by decide) (by omega)
                          refine zr_iadd (pc := 242) hV dX12_roomFor_242 ?_
                          refine zr_icmp_ge (pc := 243) hV 273 dX12_roomFor_243 (by decide) (by omega) (by omega) (fun c22 => ?_) (fun c22 => ?_)
                          · show V 273 [some (ZR 0), none, none, none, none, none, none, none, some (ZI x8_214), some (ZI x9_232), some (ZI x10_232)] [] 41 σ_232
                            refine zr_iload (pc := 273) hV dX12_roomFor_273 rfl ?_
                            refine zr_if_eq (pc := 275) hV 281 dX12_roomFor_275 (by decide) (by omega) (fun c23 => ?_) (fun c23 => ?_)
                            · show V 281 [some (ZR 0), none, none, none, none, none, none, none, some (ZI x8_214), some (ZI x9_232), some (ZI x10_232)] [] 41 σ_232
                              refine zr_iload (pc := 281) hV dX12_roomFor_281 rfl ?_
                              refine zr_iconst (pc := 283) hV 1 dX12_roomFor_283 rfl ?_
                              refine zr_aload_n (pc := 284) hV dX12_roomFor_284 rfl rfl ?_
                              refine zr_getI (pc := 285) hV 61 dX12_roomFor_285 fX12_470 rfl rfl rfl (by decide) ?_
                              have t24 := zx_g61 hσ_232
                              refine zr_ishl (pc := 288) hV dX12_roomFor_288 ?_
                              have t25 := zx_shl_one (y := σ_232 0 61) 11 2048 (by decide) (by decide) (by omega)
                              refine zr_iadd (pc := 289) hV dX12_roomFor_289 ?_
                              refine zr_istore (pc := 290) hV [some (ZR 0), none, none, none, none, none, none, none, some (ZI (x8_214 + (zq_shl 1 (σ_232 0 61)))), some (ZI x9_232), some (ZI x10_232)] dX12_roomFor_290 (by decide) rfl rfl ?_
                              refine zr_goto (pc := 292) hV 214 dX12_roomFor_292 (by decide) ?_
                              have t26 := zx_g61 hσ_232
                              have t27 := zx_g61 hσ_232
                              refine zr_sub (pc := 214) hV [some (ZR 0), none, none, none, none, none, none, none, some (ZI (x8_214 + (zq_shl 1 (σ_232 0 61)))), none, none] (⟨rfl, rfl, trivial⟩) ?_
                              exact ih214 (x8_214 + (zq_shl 1 (σ_232 0 61))) σ_232 (by omega) hσ_232 hFσ_232 Mσ_232 Oσ_232 (by omega) (by have e1 := (zx_shl_one (y := σ_232 0 61) 11 2048 (by decide) (by decide) (by omega)).1; rw [e1, cg]; exact Int.dvd_add hi214_1 (Int.dvd_refl _)) (by omega)
                            · show V 278 [some (ZR 0), none, none, none, none, none, none, none, some (ZI x8_214), some (ZI x9_232), some (ZI x10_232)] [] 41 σ_232
                              refine zr_iload (pc := 278) hV dX12_roomFor_278 rfl ?_
                              exact zr_iret (pc := 280) hV dX12_roomFor_280 rfl rfl ⟨_, rfl, (by omega), hσ_232, hFσ_232, (by omega), Mσ_232, Oσ_232⟩
                          · show V 246 [some (ZR 0), none, none, none, none, none, none, none, some (ZI x8_214), some (ZI x9_232), some (ZI x10_232)] [] 41 σ_232
                            refine zr_iload (pc := 246) hV dX12_roomFor_246 rfl ?_
                            refine zr_if_eq (pc := 248) hV 273 dX12_roomFor_248 (by decide) (by omega) (fun c28 => ?_) (fun c28 => ?_)
                            · show V 273 [some (ZR 0), none, none, none, none, none, none, none, some (ZI x8_214), some (ZI x9_232), some (ZI x10_232)] [] 41 σ_232
                              refine zr_iload (pc := 273) hV dX12_roomFor_273 rfl ?_
                              refine zr_if_eq (pc := 275) hV 281 dX12_roomFor_275 (by decide) (by omega) (fun c29 => ?_) (fun c29 => ?_)
                              · show V 281 [some (ZR 0), none, none, none, none, none, none, none, some (ZI x8_214), some (ZI x9_232), some (ZI x10_232)] [] 41 σ_232
                                refine zr_iload (pc := 281) hV dX12_roomFor_281 rfl ?_
                                refine zr_iconst (pc := 283) hV 1 dX12_roomFor_283 rfl ?_
                                refine zr_aload_n (pc := 284) hV dX12_roomFor_284 rfl rfl ?_
                                refine zr_getI (pc := 285) hV 61 dX12_roomFor_285 fX12_470 rfl rfl rfl (by decide) ?_
                                have t30 := zx_g61 hσ_232
                                refine zr_ishl (pc := 288) hV dX12_roomFor_288 ?_
                                have t31 := zx_shl_one (y := σ_232 0 61) 11 2048 (by decide) (by decide) (by omega)
                                refine zr_iadd (pc := 289) hV dX12_roomFor_289 ?_
                                refine zr_istore (pc := 290) hV [some (ZR 0), none, none, none, none, none, none, none, some (ZI (x8_214 + (zq_shl 1 (σ_232 0 61)))), some (ZI x9_232), some (ZI x10_232)] dX12_roomFor_290 (by decide) rfl rfl ?_
                                refine zr_goto (pc := 292) hV 214 dX12_roomFor_292 (by decide) ?_
                                have t32 := zx_g61 hσ_232
                                have t33 := zx_g61 hσ_232
                                refine zr_sub (pc := 214) hV [some (ZR 0), none, none, none, none, none, none, none, some (ZI (x8_214 + (zq_shl 1 (σ_232 0 61)))), none, none] (⟨rfl, rfl, trivial⟩) ?_
                                exact ih214 (x8_214 + (zq_shl 1 (σ_232 0 61))) σ_232 (by omega) hσ_232 hFσ_232 Mσ_232 Oσ_232 (by omega) (by have e1 := (zx_shl_one (y := σ_232 0 61) 11 2048 (by decide) (by decide) (by omega)).1; rw [e1, cg]; exact Int.dvd_add hi214_1 (Int.dvd_refl _)) (by omega)
                              · exfalso; omega
                            · show V 251 [some (ZR 0), none, none, none, none, none, none, none, some (ZI x8_214), some (ZI x9_232), some (ZI x10_232)] [] 41 σ_232
                              refine zr_aload_n (pc := 251) hV dX12_roomFor_251 rfl rfl ?_
                              refine zr_iload (pc := 252) hV dX12_roomFor_252 rfl ?_
                              refine zr_callVi (pc := 254) hV [ZI x10_232] (st := []) (c_X12_ownerOf (σ := σ_232) hσ_232 x10_232 (by omega) Mσ_232) dX12_roomFor_254 mX12_283 rfl (by decide) (by decide) (Nat.le_of_ble_eq_true rfl) (Nat.le_refl _) (fun r254 σ254 hr254 pσ254 => ?_)
                              obtain ⟨hσ254, hfσ254, pσ254⟩ := pσ254
                              have Mσ254 : zx_M σ254 := pσ254.2.2.2.2.2
                              have Oσ254 : zx_O σ254 := zx_O_fr (fun i => hfσ254 2 i (by omega)) (fun i => hfσ254 5 i (by omega)) (fun i => hfσ254 6 i (by omega)) (hfσ254 0 2 (by omega)) (hfσ254 0 3 (by omega)) Oσ_232
                              have hFσ254 : ∀ a i : Int, (¬ (a = 0 ∧ i = 30) ∧ ¬ (a = 0 ∧ i = 61) ∧ a ≠ 18) → σ254 a i = σ a i := fun a i h => (hfσ254 a i ⟨h.1, h.2.2⟩).trans (hFσ_232 a i h)
                              have t34 := zx_g30 hσ_232
                              have t35 := zx_g30 hσ254
                              refine zr_if_ge (pc := 257) hV 264 dX12_roomFor_257 (by decide) (by omega) (fun c36 => ?_) (fun c36 => ?_)
                              · show V 264 [some (ZR 0), none, none, none, none, none, none, none, some (ZI x8_214), some (ZI x9_232), some (ZI x10_232)] [] 41 σ254
                                refine zr_iconst (pc := 264) hV 0 dX12_roomFor_264 rfl ?_
                                show V 265 [some (ZR 0), none, none, none, none, none, none, none, some (ZI x8_214), some (ZI x9_232), some (ZI x10_232)] [ZI 0] 41 σ254
                                refine zr_istore (pc := 265) hV [some (ZR 0), none, none, none, none, none, none, none, some (ZI x8_214), some (ZI 0), some (ZI x10_232)] dX12_roomFor_265 (by decide) rfl rfl ?_
                                refine zr_iinc (pc := 267) hV [some (ZR 0), none, none, none, none, none, none, none, some (ZI x8_214), some (ZI 0), some (ZI (x10_232 + 1))] (x10_232 + 1) dX12_roomFor_267 rfl rfl (by decide) rfl rfl ?_
                                refine zr_goto (pc := 270) hV 232 dX12_roomFor_270 (by decide) ?_
                                have t37 := zx_g61 hσ254
                                have t38 : σ254 0 61 = σ_232 0 61 := hfσ254 _ _ (by omega)
                                exact ih232 (x10_232 + 1) 0 σ254 (by omega) (by omega) hσ254 hFσ254 Mσ254 Oσ254 (by omega) (by omega) (by omega)
                              · show V 260 [some (ZR 0), none, none, none, none, none, none, none, some (ZI x8_214), some (ZI x9_232), some (ZI x10_232)] [] 41 σ254
                                refine zr_iconst (pc := 260) hV 1 dX12_roomFor_260 rfl ?_
                                refine zr_goto (pc := 261) hV 265 dX12_roomFor_261 (by decide) ?_
                                show V 265 [some (ZR 0), none, none, none, none, none, none, none, some (ZI x8_214), some (ZI x9_232), some (ZI x10_232)] [ZI 1] 41 σ254
                                refine zr_istore (pc := 265) hV [some (ZR 0), none, none, none, none, none, none, none, some (ZI x8_214), some (ZI 1), some (ZI x10_232)] dX12_roomFor_265 (by decide) rfl rfl ?_
                                refine zr_iinc (pc := 267) hV [some (ZR 0), none, none, none, none, none, none, none, some (ZI x8_214), some (ZI 1), some (ZI (x10_232 + 1))] (x10_232 + 1) dX12_roomFor_267 rfl rfl (by decide) rfl rfl ?_
                                refine zr_goto (pc := 270) hV 232 dX12_roomFor_270 (by decide) ?_
                                have t39 := zx_g61 hσ254
                                have t40 : σ254 0 61 = σ_232 0 61 := hfσ254 _ _ (by omega)
                                exact ih232 (x10_232 + 1) 1 σ254 (by omega) (by omega) hσ254 hFσ254 Mσ254 Oσ254 (by omega) (by omega) (by omega)
                      have t41 := zx_g61 hσ_214
                      exact L232 (4096 - x8_214 + 1 : Int).toNat x8_214 1 σ_214 (by omega) (by omega) hσ_214 hFσ_214 Mσ_214 Oσ_214 (by omega) (by omega) (by omega)
                have t42 := zx_g61 hσ_164
                have t43 := zx_g61 hσ_164
                refine zr_sub (pc := 214) hV [some (ZR 0), none, none, none, none, none, none, none, some (ZI 0), none, none] (⟨rfl, rfl, trivial⟩) ?_
                exact L214 (4096 - (0 : Int) + 1 : Int).toNat 0 σ_164 (by omega) hσ_164 hFσ_164 Mσ_164 Oσ_164 (by omega) (Int.dvd_zero _) (by omega)
              · show V 208 [some (ZR 0), none, none, none, none, none, none, some (ZI (zq_or r122 r127)), some (ZI x8_164), none, none] [] 41 σ_164
                refine zr_bipush (pc := 208) hV (-2) dX12_roomFor_208 (by decide) ?_
                exact zr_iret (pc := 210) hV dX12_roomFor_210 rfl rfl ⟨_, rfl, ⟨by decide, by decide⟩, hσ_164, hFσ_164, (by omega), Mσ_164, Oσ_164⟩
            · show V 170 [some (ZR 0), none, none, none, none, none, none, some (ZI (zq_or r122 r127)), some (ZI x8_164), none, none] [] 41 σ_164
              refine zr_aload_n (pc := 170) hV dX12_roomFor_170 rfl rfl ?_
              refine zr_dup (pc := 171) hV dX12_roomFor_171 (fun _ => rfl) ?_
              refine zr_getI (pc := 172) hV 61 dX12_roomFor_172 fX12_470 rfl rfl rfl (by decide) ?_
              have t44 := zx_g61 hσ_164
              refine zr_iload (pc := 175) hV dX12_roomFor_175 rfl ?_
              refine zr_iload (pc := 177) hV dX12_roomFor_177 rfl ?_
              refine zr_ishr (pc := 179) hV dX12_roomFor_179 ?_
              have t45 := zq_shr_in (zq_or r122 r127) x8_164
              refine zr_iconst (pc := 180) hV 1 dX12_roomFor_180 rfl ?_
              refine zr_iand (pc := 181) hV dX12_roomFor_181 ?_
              have t46 := zq_and_mask (zq_shr (zq_or r122 r127) x8_164) 1 1 2 (by decide) (by decide) (by decide)
              refine zr_aload_n (pc := 182) hV dX12_roomFor_182 rfl rfl ?_
              refine zr_getI (pc := 183) hV 1 dX12_roomFor_183 fX12_13 rfl rfl rfl (by decide) ?_
              have t47 := zx_g1 hσ_164
              have t48 : σ_164 0 1 = σ 0 1 := hFσ_164 _ _ (by omega)
              refine zr_imul (pc := 186) hV dX12_roomFor_186 ?_
              have t49 := zq_mul_b (x := zq_and (zq_shr (zq_or r122 r127) x8_164) 1) (y := σ_164 0 1) 1 3 (by omega) (by omega)
              refine zr_iadd (pc := 187) hV dX12_roomFor_187 ?_
              refine zr_putI (pc := 188) hV 61 dX12_roomFor_188 fX12_470 rfl rfl rfl rfl (by decide) (fun σ188 eσ188 => ?_)
              have hσ188 : zx_T σ188 := zx_u61 eσ188 hσ_164 (by omega)
              have hFσ188 : ∀ a i : Int, (¬ (a = 0 ∧ i = 30) ∧ ¬ (a = 0 ∧ i = 61) ∧ a ≠ 18) → σ188 a i = σ a i := fun a i h => by rw [eσ188, zq_up_ne h.2.1]; exact hFσ_164 a i h
              have Mσ188 : zx_M σ188 := zx_M_fr (fun i => by rw [eσ188]; exact zq_up_ne (by omega)) (by rw [eσ188]; exact zq_up_ne (by omega)) (by rw [eσ188]; exact zq_up_ne (by omega)) (by rw [eσ188]; exact zq_up_ne (by omega)) Mσ_164
              have Oσ188 : zx_O σ188 := zx_O_fr (fun i => by rw [eσ188]; exact zq_up_ne (by omega)) (fun i => by rw [eσ188]; exact zq_up_ne (by omega)) (fun i => by rw [eσ188]; exact zq_up_ne (by omega)) (by rw [eσ188]; exact zq_up_ne (by omega)) (by rw [eσ188]; exact zq_up_ne (by omega)) Oσ_164
              refine zr_iinc (pc := 191) hV [some (ZR 0), none, none, none, none, none, none, some (ZI (zq_or r122 r127)), some (ZI (x8_164 + 1)), none, none] (x8_164 + 1) dX12_roomFor_191 rfl rfl (by decide) rfl rfl ?_
              refine zr_goto (pc := 194) hV 164 dX12_roomFor_194 (by decide) ?_
              have t50 := zx_g61 hσ188
              have t51 : σ188 0 61 = (σ_164 0 61) + ((zq_and (zq_shr (zq_or r122 r127) x8_164) 1) * (σ_164 0 1)) := by rw [eσ188]; exact zq_up_same _ _ _ _
              have t52 := zx_g61 hσ188
              have t53 : σ188 0 61 = (σ_164 0 61) + ((zq_and (zq_shr (zq_or r122 r127) x8_164) 1) * (σ_164 0 1)) := by rw [eσ188]; exact zq_up_same _ _ _ _
              exact ih164 (x8_164 + 1) σ188 (by omega) hσ188 hFσ188 Mσ188 Oσ188 (by omega) (by omega) (by omega)
        have t54 := zx_g61 hσ158
        have t55 : σ158 0 61 = 0 := by rw [eσ158]; exact zq_up_same _ _ _ _
        have t56 := zx_g61 hσ158
        have t57 : σ158 0 61 = 0 := by rw [eσ158]; exact zq_up_same _ _ _ _
        refine zr_sub (pc := 164) hV [some (ZR 0), none, none, none, none, none, none, some (ZI (zq_or r122 r127)), some (ZI 0), none, none] (⟨rfl, rfl, rfl, trivial⟩) ?_
        exact L164 (3 - (0 : Int) + 1 : Int).toNat 0 σ158 (by omega) hσ158 hFσ158 Mσ158 Oσ158 (by omega) (by omega) (by omega)
      · show V 142 [some (ZR 0), some (ZI a), some (ZI c), none, some (ZI r15), some (ZI r23), some (ZI v0_110), some (ZI (zq_or r122 r127)), none, none, none] [ZR 0] 41 σ
        refine zr_iload (pc := 142) hV dX12_roomFor_142 rfl ?_
        refine zr_if_le (pc := 144) hV 152 dX12_roomFor_144 (by decide) (by omega) (fun c58 => ?_) (fun c58 => ?_)
        · show V 152 [some (ZR 0), some (ZI a), some (ZI c), none, some (ZI r15), some (ZI r23), some (ZI v0_110), some (ZI (zq_or r122 r127)), none, none, none] [ZR 0] 41 σ
          refine zr_iload (pc := 152) hV dX12_roomFor_152 rfl ?_
          refine zr_goto (pc := 154) hV 158 dX12_roomFor_154 (by decide) ?_
          show V 158 [some (ZR 0), some (ZI a), some (ZI c), none, some (ZI r15), some (ZI r23), some (ZI v0_110), some (ZI (zq_or r122 r127)), none, none, none] [ZI r23, ZR 0] 41 σ
          refine zr_putI (pc := 158) hV 61 dX12_roomFor_158 fX12_470 rfl rfl rfl rfl (by decide) (fun σ158 eσ158 => ?_)
          have hσ158 : zx_T σ158 := zx_u61 eσ158 hσ (by omega)
          have hFσ158 : ∀ a i : Int, (¬ (a = 0 ∧ i = 30) ∧ ¬ (a = 0 ∧ i = 61) ∧ a ≠ 18) → σ158 a i = σ a i := fun a i h => by rw [eσ158, zq_up_ne h.2.1]
          have Mσ158 : zx_M σ158 := zx_M_fr (fun i => by rw [eσ158]; exact zq_up_ne (by omega)) (by rw [eσ158]; exact zq_up_ne (by omega)) (by rw [eσ158]; exact zq_up_ne (by omega)) (by rw [eσ158]; exact zq_up_ne (by omega)) Mσ
          have Oσ158 : zx_O σ158 := zx_O_fr (fun i => by rw [eσ158]; exact zq_up_ne (by omega)) (fun i => by rw [eσ158]; exact zq_up_ne (by omega)) (fun i => by rw [eσ158]; exact zq_up_ne (by omega)) (by rw [eσ158]; exact zq_up_ne (by omega)) (by rw [eσ158]; exact zq_up_ne (by omega)) Oσ
          refine zr_iconst (pc := 161) hV 0 dX12_roomFor_161 rfl ?_
          refine zr_istore (pc := 162) hV [some (ZR 0), some (ZI a), some (ZI c), none, some (ZI r15), some (ZI r23), some (ZI v0_110), some (ZI (zq_or r122 r127)), some (ZI 0), none, none] dX12_roomFor_162 (by decide) rfl rfl ?_
          have L164 : ∀ (fuel : Nat) (x8_164 : Int) (σ_164 : zq_S), (0 ≤ x8_164 ∧ x8_164 ≤ 3) → (zx_T σ_164) → (∀ a i : Int, (¬ (a = 0 ∧ i = 30) ∧ ¬ (a = 0 ∧ i = 61) ∧ a ≠ 18) → σ_164 a i = σ a i) → (zx_M σ_164) → (zx_O σ_164) → (0 ≤ σ_164 0 61) → (σ_164 0 61 ≤ 12 + 3 * x8_164) → 3 - x8_164 < (fuel : Int) → V 164 [some (ZR 0), none, none, none, none, none, none, some (ZI (zq_or r122 r127)), some (ZI x8_164), none, none] [] 41 σ_164 := by
            intro fuel
            induction fuel with
            | zero =>
              intro x8_164 σ_164 hx8_164 hσ_164 hFσ_164 Mσ_164 Oσ_164 hi164_0 hi164_1 hm164
              exfalso; omega
            | succ fuel ih =>
              intro x8_164 σ_164 hx8_164 hσ_164 hFσ_164 Mσ_164 Oσ_164 hi164_0 hi164_1 hm164
              have ih164 := ih
              show V 164 [some (ZR 0), none, none, none, none, none, none, some (ZI (zq_or r122 r127)), some (ZI x8_164), none, none] [] 41 σ_164
              refine zr_iload (pc := 164) hV dX12_roomFor_164 rfl ?_
              refine zr_iconst (pc := 166) hV 3 dX12_roomFor_166 rfl ?_
              refine zr_icmp_ge (pc := 167) hV 197 dX12_roomFor_167 (by decide) (by omega) ⟨by decide, by decide⟩ (fun c59 => ?_) (fun c59 => ?_)
              · show V 197 [some (ZR 0), none, none, none, none, none, none, some (ZI (zq_or r122 r127)), some (ZI x8_164), none, none] [] 41 σ_164
                refine zr_aload_n (pc := 197) hV dX12_roomFor_197 rfl rfl ?_
                refine zr_getI (pc := 198) hV 61 dX12_roomFor_198 fX12_470 rfl rfl rfl (by decide) ?_
                have t60 := zx_g61 hσ_164
                refine zr_aload_n (pc := 201) hV dX12_roomFor_201 rfl rfl ?_
                refine zr_getI (pc := 202) hV 2 dX12_roomFor_202 fX12_16 rfl rfl rfl (by decide) ?_
                have t61 := zx_g2 hσ_164
                have t62 : σ_164 0 2 = σ 0 2 := hFσ_164 _ _ (by omega)
                refine zr_icmp_lt (pc := 205) hV 211 dX12_roomFor_205 (by decide) (by omega) (by omega) (fun c63 => ?_) (fun c63 => ?_)
                · show V 211 [some (ZR 0), none, none, none, none, none, none, some (ZI (zq_or r122 r127)), some (ZI x8_164), none, none] [] 41 σ_164
                  refine zr_iconst (pc := 211) hV 0 dX12_roomFor_211 rfl ?_
                  refine zr_istore (pc := 212) hV [some (ZR 0), none, none, none, none, none, none, some (ZI (zq_or r122 r127)), some (ZI 0), none, none] dX12_roomFor_212 (by decide) rfl rfl ?_
                  have t64 := zx_g61 hσ_164
                  have L214 : ∀ (fuel : Nat) (x8_214 : Int) (σ_214 : zq_S), (0 ≤ x8_214 ∧ x8_214 ≤ 4096) → (zx_T σ_214) → (∀ a i : Int, (¬ (a = 0 ∧ i = 30) ∧ ¬ (a = 0 ∧ i = 61) ∧ a ≠ 18) → σ_214 a i = σ a i) → (zx_M σ_214) → (zx_O σ_214) → (σ_214 0 61 = σ_164 0 61) → (zx_p2 (σ_214 0 61) ∣ x8_214) → 4096 - x8_214 < (fuel : Int) → V 214 [some (ZR 0), none, none, none, none, none, none, none, some (ZI x8_214), none, none] [] 41 σ_214 := by
                    intro fuel
                    induction fuel with
                    | zero =>
                      intro x8_214 σ_214 hx8_214 hσ_214 hFσ_214 Mσ_214 Oσ_214 hi214_0 hi214_1 hm214
                      exfalso; omega
                    | succ fuel ih =>
                      intro x8_214 σ_214 hx8_214 hσ_214 hFσ_214 Mσ_214 Oσ_214 hi214_0 hi214_1 hm214
                      have ih214 := ih
                      show V 214 [some (ZR 0), none, none, none, none, none, none, none, some (ZI x8_214), none, none] [] 41 σ_214
                      refine zr_iload (pc := 214) hV dX12_roomFor_214 rfl ?_
                      refine zr_iconst (pc := 216) hV 1 dX12_roomFor_216 rfl ?_
                      refine zr_aload_n (pc := 217) hV dX12_roomFor_217 rfl rfl ?_
                      refine zr_getI (pc := 218) hV 2 dX12_roomFor_218 fX12_16 rfl rfl rfl (by decide) ?_
                      have t65 := zx_g2 hσ_214
                      have t66 : σ_214 0 2 = σ 0 2 := hFσ_214 _ _ (by omega)
                      refine zr_ishl (pc := 221) hV dX12_roomFor_221 ?_
                      have t67 := zx_shl_one (y := σ_214 0 2) 12 4096 (by decide) (by decide) (by omega)
                      refine zr_icmp_ge (pc := 222) hV 295 dX12_roomFor_222 (by decide) (by omega) (by omega) (fun c68 => ?_) (fun c68 => ?_)
                      · show V 295 [some (ZR 0), none, none, none, none, none, none, none, some (ZI x8_214), none, none] [] 41 σ_214
                        refine zr_bipush (pc := 295) hV (-2) dX12_roomFor_295 (by decide) ?_
                        exact zr_iret (pc := 297) hV dX12_roomFor_297 rfl rfl ⟨_, rfl, ⟨by decide, by decide⟩, hσ_214, hFσ_214, (by omega), Mσ_214, Oσ_214⟩
                      · show V 225 [some (ZR 0), none, none, none, none, none, none, none, some (ZI x8_214), none, none] [] 41 σ_214
                        have hb1 := zx_blk hi214_1 (show x8_214 < zx_p2 (σ_214 0 2) by omega) (by omega) (by omega)
                        have hb2 := zx_p2_le (m := σ_214 0 2) (n := 12) (by omega)
                        have hb3 := zx_p2_12
                        refine zr_iconst (pc := 225) hV 1 dX12_roomFor_225 rfl ?_
                        refine zr_istore (pc := 226) hV [some (ZR 0), none, none, none, none, none, none, none, some (ZI x8_214), some (ZI 1), none] dX12_roomFor_226 (by decide) rfl rfl ?_
                        refine zr_iload (pc := 228) hV dX12_roomFor_228 rfl ?_
                        refine zr_istore (pc := 230) hV [some (ZR 0), none, none, none, none, none, none, none, some (ZI x8_214), some (ZI 1), some (ZI x8_214)] dX12_roomFor_230 (by decide) rfl rfl ?_
                        have t69 := zx_g61 hσ_214
                        have L232 : ∀ (fuel : Nat) (x10_232 : Int) (x9_232 : Int) (σ_232 : zq_S), (0 ≤ x10_232 ∧ x10_232 ≤ 4096) → (0 ≤ x9_232 ∧ x9_232 ≤ 1) → (zx_T σ_232) → (∀ a i : Int, (¬ (a = 0 ∧ i = 30) ∧ ¬ (a = 0 ∧ i = 61) ∧ a ≠ 18) → σ_232 a i = σ a i) → (zx_M σ_232) → (zx_O σ_232) → (x8_214 ≤ x10_232) → (σ_232 0 61 = σ_214 0 61) → 4096 - x10_232 < (fuel : Int) → V 232 [some (ZR 0), none, none, none, none, none, none, none, some (ZI x8_214), some (ZI x9_232), some (ZI x10_232)] [] 41 σ_232 := by
                          intro fuel
                          induction fuel with
                          | zero =>
                            intro x10_232 x9_232 σ_232 hx10_232 hx9_232 hσ_232 hFσ_232 Mσ_232 Oσ_232 hi232_0 hi232_1 hm232
                            exfalso; omega
                          | succ fuel ih =>
                            intro x10_232 x9_232 σ_232 hx10_232 hx9_232 hσ_232 hFσ_232 Mσ_232 Oσ_232 hi232_0 hi232_1 hm232
                            have ih232 := ih
                            have cg : zx_p2 (σ_232 0 61) = zx_p2 (σ_214 0 61) := by rw [hi232_1]
                            show V 232 [some (ZR 0), none, none, none, none, none, none, none, some (ZI x8_214), some (ZI x9_232), some (ZI x10_232)] [] 41 σ_232
                            refine zr_iload (pc := 232) hV dX12_roomFor_232 rfl ?_
                            refine zr_iload (pc := 234) hV dX12_roomFor_234 rfl ?_
                            refine zr_iconst (pc := 236) hV 1 dX12_roomFor_236 rfl ?_
                            refine zr_aload_n (pc := 237) hV dX12_roomFor_237 rfl rfl ?_
                            refine zr_getI (pc := 238) hV 61 dX12_roomFor_238 fX12_470 rfl rfl rfl (by decide) ?_
                            have t70 := zx_g61 hσ_232
                            refine zr_ishl (pc := 241) hV dX12_roomFor_241 ?_
                            have t71 := zx_shl_one (y := σ_232 0 61) 11 2048 (by decide) (by decide) (by omega)
                            refine zr_iadd (pc := 242) hV dX12_roomFor_242 ?_
                            refine zr_icmp_ge (pc := 243) hV 273 dX12_roomFor_243 (by decide) (by omega) (by omega) (fun c72 => ?_) (fun c72 => ?_)
                            · show V 273 [some (ZR 0), none, none, none, none, none, none, none, some (ZI x8_214), some (ZI x9_232), some (ZI x10_232)] [] 41 σ_232
                              refine zr_iload (pc := 273) hV dX12_roomFor_273 rfl ?_
                              refine zr_if_eq (pc := 275) hV 281 dX12_roomFor_275 (by decide) (by omega) (fun c73 => ?_) (fun c73 => ?_)
                              · show V 281 [some (ZR 0), none, none, none, none, none, none, none, some (ZI x8_214), some (ZI x9_232), some (ZI x10_232)] [] 41 σ_232
                                refine zr_iload (pc := 281) hV dX12_roomFor_281 rfl ?_
                                refine zr_iconst (pc := 283) hV 1 dX12_roomFor_283 rfl ?_
                                refine zr_aload_n (pc := 284) hV dX12_roomFor_284 rfl rfl ?_
                                refine zr_getI (pc := 285) hV 61 dX12_roomFor_285 fX12_470 rfl rfl rfl (by decide) ?_
                                have t74 := zx_g61 hσ_232
                                refine zr_ishl (pc := 288) hV dX12_roomFor_288 ?_
                                have t75 := zx_shl_one (y := σ_232 0 61) 11 2048 (by decide) (by decide) (by omega)
                                refine zr_iadd (pc := 289) hV dX12_roomFor_289 ?_
                                refine zr_istore (pc := 290) hV [some (ZR 0), none, none, none, none, none, none, none, some (ZI (x8_214 + (zq_shl 1 (σ_232 0 61)))), some (ZI x9_232), some (ZI x10_232)] dX12_roomFor_290 (by decide) rfl rfl ?_
                                refine zr_goto (pc := 292) hV 214 dX12_roomFor_292 (by decide) ?_
                                have t76 := zx_g61 hσ_232
                                have t77 := zx_g61 hσ_232
                                refine zr_sub (pc := 214) hV [some (ZR 0), none, none, none, none, none, none, none, some (ZI (x8_214 + (zq_shl 1 (σ_232 0 61)))), none, none] (⟨rfl, rfl, trivial⟩) ?_
                                exact ih214 (x8_214 + (zq_shl 1 (σ_232 0 61))) σ_232 (by omega) hσ_232 hFσ_232 Mσ_232 Oσ_232 (by omega) (by have e1 := (zx_shl_one (y := σ_232 0 61) 11 2048 (by decide) (by decide) (by omega)).1; rw [e1, cg]; exact Int.dvd_add hi214_1 (Int.dvd_refl _)) (by omega)
                              · show V 278 [some (ZR 0), none, none, none, none, none, none, none, some (ZI x8_214), some (ZI x9_232), some (ZI x10_232)] [] 41 σ_232
                                refine zr_iload (pc := 278) hV dX12_roomFor_278 rfl ?_
                                exact zr_iret (pc := 280) hV dX12_roomFor_280 rfl rfl ⟨_, rfl, (by omega), hσ_232, hFσ_232, (by omega), Mσ_232, Oσ_232⟩
                            · show V 246 [some (ZR 0), none, none, none, none, none, none, none, some (ZI x8_214), some (ZI x9_232), some (ZI x10_232)] [] 41 σ_232
                              refine zr_iload (pc := 246) hV dX12_roomFor_246 rfl ?_
                              refine zr_if_eq (pc := 248) hV 273 dX12_roomFor_248 (by decide) (by omega) (fun c78 => ?_) (fun c78 => ?_)
                              · show V 273 [some (ZR 0), none, none, none, none, none, none, none, some (ZI x8_214), some (ZI x9_232), some (ZI x10_232)] [] 41 σ_232
                                refine zr_iload (pc := 273) hV dX12_roomFor_273 rfl ?_
                                refine zr_if_eq (pc := 275) hV 281 dX12_roomFor_275 (by decide) (by omega) (fun c79 => ?_) (fun c79 => ?_)
                                · show V 281 [some (ZR 0), none, none, none, none, none, none, none, some (ZI x8_214), some (ZI x9_232), some (ZI x10_232)] [] 41 σ_232
                                  refine zr_iload (pc := 281) hV dX12_roomFor_281 rfl ?_
                                  refine zr_iconst (pc := 283) hV 1 dX12_roomFor_283 rfl ?_
                                  refine zr_aload_n (pc := 284) hV dX12_roomFor_284 rfl rfl ?_
                                  refine zr_getI (pc := 285) hV 61 dX12_roomFor_285 fX12_470 rfl rfl rfl (by decide) ?_
                                  have t80 := zx_g61 hσ_232
                                  refine zr_ishl (pc := 288) hV dX12_roomFor_288 ?_
                                  have t81 := zx_shl_one (y := σ_232 0 61) 11 2048 (by decide) (by decide) (by omega)
                                  refine zr_iadd (pc := 289) hV dX12_roomFor_289 ?_
                                  refine zr_istore (pc := 290) hV [some (ZR 0), none, none, none, none, none, none, none, some (ZI (x8_214 + (zq_shl 1 (σ_232 0 61)))), some (ZI x9_232), some (ZI x10_232)] dX12_roomFor_290 (by decide) rfl rfl ?_
                                  refine zr_goto (pc := 292) hV 214 dX12_roomFor_292 (by decide) ?_
                                  have t82 := zx_g61 hσ_232
                                  have t83 := zx_g61 hσ_232
                                  refine zr_sub (pc := 214) hV [some (ZR 0), none, none, none, none, none, none, none, some (ZI (x8_214 + (zq_shl 1 (σ_232 0 61)))), none, none] (⟨rfl, rfl, trivial⟩) ?_
                                  exact ih214 (x8_214 + (zq_shl 1 (σ_232 0 61))) σ_232 (by omega) hσ_232 hFσ_232 Mσ_232 Oσ_232 (by omega) (by have e1 := (zx_shl_one (y := σ_232 0 61) 11 2048 (by decide) (by decide) (by omega)).1; rw [e1, cg]; exact Int.dvd_add hi214_1 (Int.dvd_refl _)) (by omega)
                                · exfalso; omega
                              · show V 251 [some (ZR 0), none, none, none, none, none, none, none, some (ZI x8_214), some (ZI x9_232), some (ZI x10_232)] [] 41 σ_232
                                refine zr_aload_n (pc := 251) hV dX12_roomFor_251 rfl rfl ?_
                                refine zr_iload (pc := 252) hV dX12_roomFor_252 rfl ?_
                                refine zr_callVi (pc := 254) hV [ZI x10_232] (st := []) (c_X12_ownerOf (σ := σ_232) hσ_232 x10_232 (by omega) Mσ_232) dX12_roomFor_254 mX12_283 rfl (by decide) (by decide) (Nat.le_of_ble_eq_true rfl) (Nat.le_refl _) (fun r254 σ254 hr254 pσ254 => ?_)
                                obtain ⟨hσ254, hfσ254, pσ254⟩ := pσ254
                                have Mσ254 : zx_M σ254 := pσ254.2.2.2.2.2
                                have Oσ254 : zx_O σ254 := zx_O_fr (fun i => hfσ254 2 i (by omega)) (fun i => hfσ254 5 i (by omega)) (fun i => hfσ254 6 i (by omega)) (hfσ254 0 2 (by omega)) (hfσ254 0 3 (by omega)) Oσ_232
                                have hFσ254 : ∀ a i : Int, (¬ (a = 0 ∧ i = 30) ∧ ¬ (a = 0 ∧ i = 61) ∧ a ≠ 18) → σ254 a i = σ a i := fun a i h => (hfσ254 a i ⟨h.1, h.2.2⟩).trans (hFσ_232 a i h)
                                have t84 := zx_g30 hσ_232
                                have t85 := zx_g30 hσ254
                                refine zr_if_ge (pc := 257) hV 264 dX12_roomFor_257 (by decide) (by omega) (fun c86 => ?_) (fun c86 => ?_)
                                · show V 264 [some (ZR 0), none, none, none, none, none, none, none, some (ZI x8_214), some (ZI x9_232), some (ZI x10_232)] [] 41 σ254
                                  refine zr_iconst (pc := 264) hV 0 dX12_roomFor_264 rfl ?_
                                  show V 265 [some (ZR 0), none, none, none, none, none, none, none, some (ZI x8_214), some (ZI x9_232), some (ZI x10_232)] [ZI 0] 41 σ254
                                  refine zr_istore (pc := 265) hV [some (ZR 0), none, none, none, none, none, none, none, some (ZI x8_214), some (ZI 0), some (ZI x10_232)] dX12_roomFor_265 (by decide) rfl rfl ?_
                                  refine zr_iinc (pc := 267) hV [some (ZR 0), none, none, none, none, none, none, none, some (ZI x8_214), some (ZI 0), some (ZI (x10_232 + 1))] (x10_232 + 1) dX12_roomFor_267 rfl rfl (by decide) rfl rfl ?_
                                  refine zr_goto (pc := 270) hV 232 dX12_roomFor_270 (by decide) ?_
                                  have t87 := zx_g61 hσ254
                                  have t88 : σ254 0 61 = σ_232 0 61 := hfσ254 _ _ (by omega)
                                  exact ih232 (x10_232 + 1) 0 σ254 (by omega) (by omega) hσ254 hFσ254 Mσ254 Oσ254 (by omega) (by omega) (by omega)
                                · show V 260 [some (ZR 0), none, none, none, none, none, none, none, some (ZI x8_214), some (ZI x9_232), some (ZI x10_232)] [] 41 σ254
                                  refine zr_iconst (pc := 260) hV 1 dX12_roomFor_260 rfl ?_
                                  refine zr_goto (pc := 261) hV 265 dX12_roomFor_261 (by decide) ?_
                                  show V 265 [some (ZR 0), none, none, none, none, none, none, none, some (ZI x8_214), some (ZI x9_232), some (ZI x10_232)] [ZI 1] 41 σ254
                                  refine zr_istore (pc := 265) hV [some (ZR 0), none, none, none, none, none, none, none, some (ZI x8_214), some (ZI 1), some (ZI x10_232)] dX12_roomFor_265 (by decide) rfl rfl ?_
                                  refine zr_iinc (pc := 267) hV [some (ZR 0), none, none, none, none, none, none, none, some (ZI x8_214), some (ZI 1), some (ZI (x10_232 + 1))] (x10_232 + 1) dX12_roomFor_267 rfl rfl (by decide) rfl rfl ?_
                                  refine zr_goto (pc := 270) hV 232 dX12_roomFor_270 (by decide) ?_
                                  have t89 := zx_g61 hσ254
                                  have t90 : σ254 0 61 = σ_232 0 61 := hfσ254 _ _ (by omega)
                                  exact ih232 (x10_232 + 1) 1 σ254 (by omega) (by omega) hσ254 hFσ254 Mσ254 Oσ254 (by omega) (by omega) (by omega)
                        have t91 := zx_g61 hσ_214
                        exact L232 (4096 - x8_214 + 1 : Int).toNat x8_214 1 σ_214 (by omega) (by omega) hσ_214 hFσ_214 Mσ_214 Oσ_214 (by omega) (by omega) (by omega)
                  have t92 := zx_g61 hσ_164
                  have t93 := zx_g61 hσ_164
                  refine zr_sub (pc := 214) hV [some (ZR 0), none, none, none, none, none, none, none, some (ZI 0), none, none] (⟨rfl, rfl, trivial⟩) ?_
                  exact L214 (4096 - (0 : Int) + 1 : Int).toNat 0 σ_164 (by omega) hσ_164 hFσ_164 Mσ_164 Oσ_164 (by omega) (Int.dvd_zero _) (by omega)
                · show V 208 [some (ZR 0), none, none, none, none, none, none, some (ZI (zq_or r122 r127)), some (ZI x8_164), none, none] [] 41 σ_164
                  refine zr_bipush (pc := 208) hV (-2) dX12_roomFor_208 (by decide) ?_
                  exact zr_iret (pc := 210) hV dX12_roomFor_210 rfl rfl ⟨_, rfl, ⟨by decide, by decide⟩, hσ_164, hFσ_164, (by omega), Mσ_164, Oσ_164⟩
              · show V 170 [some (ZR 0), none, none, none, none, none, none, some (ZI (zq_or r122 r127)), some (ZI x8_164), none, none] [] 41 σ_164
                refine zr_aload_n (pc := 170) hV dX12_roomFor_170 rfl rfl ?_
                refine zr_dup (pc := 171) hV dX12_roomFor_171 (fun _ => rfl) ?_
                refine zr_getI (pc := 172) hV 61 dX12_roomFor_172 fX12_470 rfl rfl rfl (by decide) ?_
                have t94 := zx_g61 hσ_164
                refine zr_iload (pc := 175) hV dX12_roomFor_175 rfl ?_
                refine zr_iload (pc := 177) hV dX12_roomFor_177 rfl ?_
                refine zr_ishr (pc := 179) hV dX12_roomFor_179 ?_
                have t95 := zq_shr_in (zq_or r122 r127) x8_164
                refine zr_iconst (pc := 180) hV 1 dX12_roomFor_180 rfl ?_
                refine zr_iand (pc := 181) hV dX12_roomFor_181 ?_
                have t96 := zq_and_mask (zq_shr (zq_or r122 r127) x8_164) 1 1 2 (by decide) (by decide) (by decide)
                refine zr_aload_n (pc := 182) hV dX12_roomFor_182 rfl rfl ?_
                refine zr_getI (pc := 183) hV 1 dX12_roomFor_183 fX12_13 rfl rfl rfl (by decide) ?_
                have t97 := zx_g1 hσ_164
                have t98 : σ_164 0 1 = σ 0 1 := hFσ_164 _ _ (by omega)
                refine zr_imul (pc := 186) hV dX12_roomFor_186 ?_
                have t99 := zq_mul_b (x := zq_and (zq_shr (zq_or r122 r127) x8_164) 1) (y := σ_164 0 1) 1 3 (by omega) (by omega)
                refine zr_iadd (pc := 187) hV dX12_roomFor_187 ?_
                refine zr_putI (pc := 188) hV 61 dX12_roomFor_188 fX12_470 rfl rfl rfl rfl (by decide) (fun σ188 eσ188 => ?_)
                have hσ188 : zx_T σ188 := zx_u61 eσ188 hσ_164 (by omega)
                have hFσ188 : ∀ a i : Int, (¬ (a = 0 ∧ i = 30) ∧ ¬ (a = 0 ∧ i = 61) ∧ a ≠ 18) → σ188 a i = σ a i := fun a i h => by rw [eσ188, zq_up_ne h.2.1]; exact hFσ_164 a i h
                have Mσ188 : zx_M σ188 := zx_M_fr (fun i => by rw [eσ188]; exact zq_up_ne (by omega)) (by rw [eσ188]; exact zq_up_ne (by omega)) (by rw [eσ188]; exact zq_up_ne (by omega)) (by rw [eσ188]; exact zq_up_ne (by omega)) Mσ_164
                have Oσ188 : zx_O σ188 := zx_O_fr (fun i => by rw [eσ188]; exact zq_up_ne (by omega)) (fun i => by rw [eσ188]; exact zq_up_ne (by omega)) (fun i => by rw [eσ188]; exact zq_up_ne (by omega)) (by rw [eσ188]; exact zq_up_ne (by omega)) (by rw [eσ188]; exact zq_up_ne (by omega)) Oσ_164
                refine zr_iinc (pc := 191) hV [some (ZR 0), none, none, none, none, none, none, some (ZI (zq_or r122 r127)), some (ZI (x8_164 + 1)), none, none] (x8_164 + 1) dX12_roomFor_191 rfl rfl (by decide) rfl rfl ?_
                refine zr_goto (pc := 194) hV 164 dX12_roomFor_194 (by decide) ?_
                have t100 := zx_g61 hσ188
                have t101 : σ188 0 61 = (σ_164 0 61) + ((zq_and (zq_shr (zq_or r122 r127) x8_164) 1) * (σ_164 0 1)) := by rw [eσ188]; exact zq_up_same _ _ _ _
                have t102 := zx_g61 hσ188
                have t103 : σ188 0 61 = (σ_164 0 61) + ((zq_and (zq_shr (zq_or r122 r127) x8_164) 1) * (σ_164 0 1)) := by rw [eσ188]; exact zq_up_same _ _ _ _
                exact ih164 (x8_164 + 1) σ188 (by omega) hσ188 hFσ188 Mσ188 Oσ188 (by omega) (by omega) (by omega)
          have t104 := zx_g61 hσ158
          have t105 : σ158 0 61 = r23 := by rw [eσ158]; exact zq_up_same _ _ _ _
          have t106 := zx_g61 hσ158
          have t107 : σ158 0 61 = r23 := by rw [eσ158]; exact zq_up_same _ _ _ _
          refine zr_sub (pc := 164) hV [some (ZR 0), none, none, none, none, none, none, some (ZI (zq_or r122 r127)), some (ZI 0), none, none] (⟨rfl, rfl, rfl, trivial⟩) ?_
          exact L164 (3 - (0 : Int) + 1 : Int).toNat 0 σ158 (by omega) hσ158 hFσ158 Mσ158 Oσ158 (by omega) (by omega) (by omega)
        · show V 147 [some (ZR 0), some (ZI a), some (ZI c), none, some (ZI r15), some (ZI r23), some (ZI v0_110), some (ZI (zq_or r122 r127)), none, none, none] [ZR 0] 41 σ
          refine zr_iload (pc := 147) hV dX12_roomFor_147 rfl ?_
          refine zr_goto (pc := 149) hV 158 dX12_roomFor_149 (by decide) ?_
          show V 158 [some (ZR 0), some (ZI a), some (ZI c), none, some (ZI r15), some (ZI r23), some (ZI v0_110), some (ZI (zq_or r122 r127)), none, none, none] [ZI r15, ZR 0] 41 σ
          refine zr_putI (pc := 158) hV 61 dX12_roomFor_158 fX12_470 rfl rfl rfl rfl (by decide) (fun σ158 eσ158 => ?_)
          have hσ158 : zx_T σ158 := zx_u61 eσ158 hσ (by omega)
          have hFσ158 : ∀ a i : Int, (¬ (a = 0 ∧ i = 30) ∧ ¬ (a = 0 ∧ i = 61) ∧ a ≠ 18) → σ158 a i = σ a i := fun a i h => by rw [eσ158, zq_up_ne h.2.1]
          have Mσ158 : zx_M σ158 := zx_M_fr (fun i => by rw [eσ158]; exact zq_up_ne (by omega)) (by rw [eσ158]; exact zq_up_ne (by omega)) (by rw [eσ158]; exact zq_up_ne (by omega)) (by rw [eσ158]; exact zq_up_ne (by omega)) Mσ
          have Oσ158 : zx_O σ158 := zx_O_fr (fun i => by rw [eσ158]; exact zq_up_ne (by omega)) (fun i => by rw [eσ158]; exact zq_up_ne (by omega)) (fun i => by rw [eσ158]; exact zq_up_ne (by omega)) (by rw [eσ158]; exact zq_up_ne (by omega)) (by rw [eσ158]; exact zq_up_ne (by omega)) Oσ
          refine zr_iconst (pc := 161) hV 0 dX12_roomFor_161 rfl ?_
          refine zr_istore (pc := 162) hV [some (ZR 0), some (ZI a), some (ZI c), none, some (ZI r15), some (ZI r23), some (ZI v0_110), some (ZI (zq_or r122 r127)), some (ZI 0), none, none] dX12_roomFor_162 (by decide) rfl rfl ?_
          have L164 : ∀ (fuel : Nat) (x8_164 : Int) (σ_164 : zq_S), (0 ≤ x8_164 ∧ x8_164 ≤ 3) → (zx_T σ_164) → (∀ a i : Int, (¬ (a = 0 ∧ i = 30) ∧ ¬ (a = 0 ∧ i = 61) ∧ a ≠ 18) → σ_164 a i = σ a i) → (zx_M σ_164) → (zx_O σ_164) → (0 ≤ σ_164 0 61) → (σ_164 0 61 ≤ 12 + 3 * x8_164) → 3 - x8_164 < (fuel : Int) → V 164 [some (ZR 0), none, none, none, none, none, none, some (ZI (zq_or r122 r127)), some (ZI x8_164), none, none] [] 41 σ_164 := by
            intro fuel
            induction fuel with
            | zero =>
              intro x8_164 σ_164 hx8_164 hσ_164 hFσ_164 Mσ_164 Oσ_164 hi164_0 hi164_1 hm164
              exfalso; omega
            | succ fuel ih =>
              intro x8_164 σ_164 hx8_164 hσ_164 hFσ_164 Mσ_164 Oσ_164 hi164_0 hi164_1 hm164
              have ih164 := ih
              show V 164 [some (ZR 0), none, none, none, none, none, none, some (ZI (zq_or r122 r127)), some (ZI x8_164), none, none] [] 41 σ_164
              refine zr_iload (pc := 164) hV dX12_roomFor_164 rfl ?_
              refine zr_iconst (pc := 166) hV 3 dX12_roomFor_166 rfl ?_
              refine zr_icmp_ge (pc := 167) hV 197 dX12_roomFor_167 (by decide) (by omega) ⟨by decide, by decide⟩ (fun c108 => ?_) (fun c108 => ?_)
              · show V 197 [some (ZR 0), none, none, none, none, none, none, some (ZI (zq_or r122 r127)), some (ZI x8_164), none, none] [] 41 σ_164
                refine zr_aload_n (pc := 197) hV dX12_roomFor_197 rfl rfl ?_
                refine zr_getI (pc := 198) hV 61 dX12_roomFor_198 fX12_470 rfl rfl rfl (by decide) ?_
                have t109 := zx_g61 hσ_164
                refine zr_aload_n (pc := 201) hV dX12_roomFor_201 rfl rfl ?_
                refine zr_getI (pc := 202) hV 2 dX12_roomFor_202 fX12_16 rfl rfl rfl (by decide) ?_
                have t110 := zx_g2 hσ_164
                have t111 : σ_164 0 2 = σ 0 2 := hFσ_164 _ _ (by omega)
                refine zr_icmp_lt (pc := 205) hV 211 dX12_roomFor_205 (by decide) (by omega) (by omega) (fun c112 => ?_) (fun c112 => ?_)
                · show V 211 [some (ZR 0), none, none, none, none, none, none, some (ZI (zq_or r122 r127)), some (ZI x8_164), none, none] [] 41 σ_164
                  refine zr_iconst (pc := 211) hV 0 dX12_roomFor_211 rfl ?_
                  refine zr_istore (pc := 212) hV [some (ZR 0), none, none, none, none, none, none, some (ZI (zq_or r122 r127)), some (ZI 0), none, none] dX12_roomFor_212 (by decide) rfl rfl ?_
                  have t113 := zx_g61 hσ_164
                  have L214 : ∀ (fuel : Nat) (x8_214 : Int) (σ_214 : zq_S), (0 ≤ x8_214 ∧ x8_214 ≤ 4096) → (zx_T σ_214) → (∀ a i : Int, (¬ (a = 0 ∧ i = 30) ∧ ¬ (a = 0 ∧ i = 61) ∧ a ≠ 18) → σ_214 a i = σ a i) → (zx_M σ_214) → (zx_O σ_214) → (σ_214 0 61 = σ_164 0 61) → (zx_p2 (σ_214 0 61) ∣ x8_214) → 4096 - x8_214 < (fuel : Int) → V 214 [some (ZR 0), none, none, none, none, none, none, none, some (ZI x8_214), none, none] [] 41 σ_214 := by
                    intro fuel
                    induction fuel with
                    | zero =>
                      intro x8_214 σ_214 hx8_214 hσ_214 hFσ_214 Mσ_214 Oσ_214 hi214_0 hi214_1 hm214
                      exfalso; omega
                    | succ fuel ih =>
                      intro x8_214 σ_214 hx8_214 hσ_214 hFσ_214 Mσ_214 Oσ_214 hi214_0 hi214_1 hm214
                      have ih214 := ih
                      show V 214 [some (ZR 0), none, none, none, none, none, none, none, some (ZI x8_214), none, none] [] 41 σ_214
                      refine zr_iload (pc := 214) hV dX12_roomFor_214 rfl ?_
                      refine zr_iconst (pc := 216) hV 1 dX12_roomFor_216 rfl ?_
                      refine zr_aload_n (pc := 217) hV dX12_roomFor_217 rfl rfl ?_
                      refine zr_getI (pc := 218) hV 2 dX12_roomFor_218 fX12_16 rfl rfl rfl (by decide) ?_
                      have t114 := zx_g2 hσ_214
                      have t115 : σ_214 0 2 = σ 0 2 := hFσ_214 _ _ (by omega)
                      refine zr_ishl (pc := 221) hV dX12_roomFor_221 ?_
                      have t116 := zx_shl_one (y := σ_214 0 2) 12 4096 (by decide) (by decide) (by omega)
                      refine zr_icmp_ge (pc := 222) hV 295 dX12_roomFor_222 (by decide) (by omega) (by omega) (fun c117 => ?_) (fun c117 => ?_)
                      · show V 295 [some (ZR 0), none, none, none, none, none, none, none, some (ZI x8_214), none, none] [] 41 σ_214
                        refine zr_bipush (pc := 295) hV (-2) dX12_roomFor_295 (by decide) ?_
                        exact zr_iret (pc := 297) hV dX12_roomFor_297 rfl rfl ⟨_, rfl, ⟨by decide, by decide⟩, hσ_214, hFσ_214, (by omega), Mσ_214, Oσ_214⟩
                      · show V 225 [some (ZR 0), none, none, none, none, none, none, none, some (ZI x8_214), none, none] [] 41 σ_214
                        have hb1 := zx_blk hi214_1 (show x8_214 < zx_p2 (σ_214 0 2) by omega) (by omega) (by omega)
                        have hb2 := zx_p2_le (m := σ_214 0 2) (n := 12) (by omega)
                        have hb3 := zx_p2_12
                        refine zr_iconst (pc := 225) hV 1 dX12_roomFor_225 rfl ?_
                        refine zr_istore (pc := 226) hV [some (ZR 0), none, none, none, none, none, none, none, some (ZI x8_214), some (ZI 1), none] dX12_roomFor_226 (by decide) rfl rfl ?_
                        refine zr_iload (pc := 228) hV dX12_roomFor_228 rfl ?_
                        refine zr_istore (pc := 230) hV [some (ZR 0), none, none, none, none, none, none, none, some (ZI x8_214), some (ZI 1), some (ZI x8_214)] dX12_roomFor_230 (by decide) rfl rfl ?_
                        have t118 := zx_g61 hσ_214
                        have L232 : ∀ (fuel : Nat) (x10_232 : Int) (x9_232 : Int) (σ_232 : zq_S), (0 ≤ x10_232 ∧ x10_232 ≤ 4096) → (0 ≤ x9_232 ∧ x9_232 ≤ 1) → (zx_T σ_232) → (∀ a i : Int, (¬ (a = 0 ∧ i = 30) ∧ ¬ (a = 0 ∧ i = 61) ∧ a ≠ 18) → σ_232 a i = σ a i) → (zx_M σ_232) → (zx_O σ_232) → (x8_214 ≤ x10_232) → (σ_232 0 61 = σ_214 0 61) → 4096 - x10_232 < (fuel : Int) → V 232 [some (ZR 0), none, none, none, none, none, none, none, some (ZI x8_214), some (ZI x9_232), some (ZI x10_232)] [] 41 σ_232 := by
                          intro fuel
                          induction fuel with
                          | zero =>
                            intro x10_232 x9_232 σ_232 hx10_232 hx9_232 hσ_232 hFσ_232 Mσ_232 Oσ_232 hi232_0 hi232_1 hm232
                            exfalso; omega
                          | succ fuel ih =>
                            intro x10_232 x9_232 σ_232 hx10_232 hx9_232 hσ_232 hFσ_232 Mσ_232 Oσ_232 hi232_0 hi232_1 hm232
                            have ih232 := ih
                            have cg : zx_p2 (σ_232 0 61) = zx_p2 (σ_214 0 61) := by rw [hi232_1]
                            show V 232 [some (ZR 0), none, none, none, none, none, none, none, some (ZI x8_214), some (ZI x9_232), some (ZI x10_232)] [] 41 σ_232
                            refine zr_iload (pc := 232) hV dX12_roomFor_232 rfl ?_
                            refine zr_iload (pc := 234) hV dX12_roomFor_234 rfl ?_
                            refine zr_iconst (pc := 236) hV 1 dX12_roomFor_236 rfl ?_
                            refine zr_aload_n (pc := 237) hV dX12_roomFor_237 rfl rfl ?_
                            refine zr_getI (pc := 238) hV 61 dX12_roomFor_238 fX12_470 rfl rfl rfl (by decide) ?_
                            have t119 := zx_g61 hσ_232
                            refine zr_ishl (pc := 241) hV dX12_roomFor_241 ?_
                            have t120 := zx_shl_one (y := σ_232 0 61) 11 2048 (by decide) (by decide) (by omega)
                            refine zr_iadd (pc := 242) hV dX12_roomFor_242 ?_
                            refine zr_icmp_ge (pc := 243) hV 273 dX12_roomFor_243 (by decide) (by omega) (by omega) (fun c121 => ?_) (fun c121 => ?_)
                            · show V 273 [some (ZR 0), none, none, none, none, none, none, none, some (ZI x8_214), some (ZI x9_232), some (ZI x10_232)] [] 41 σ_232
                              refine zr_iload (pc := 273) hV dX12_roomFor_273 rfl ?_
                              refine zr_if_eq (pc := 275) hV 281 dX12_roomFor_275 (by decide) (by omega) (fun c122 => ?_) (fun c122 => ?_)
                              · show V 281 [some (ZR 0), none, none, none, none, none, none, none, some (ZI x8_214), some (ZI x9_232), some (ZI x10_232)] [] 41 σ_232
                                refine zr_iload (pc := 281) hV dX12_roomFor_281 rfl ?_
                                refine zr_iconst (pc := 283) hV 1 dX12_roomFor_283 rfl ?_
                                refine zr_aload_n (pc := 284) hV dX12_roomFor_284 rfl rfl ?_
                                refine zr_getI (pc := 285) hV 61 dX12_roomFor_285 fX12_470 rfl rfl rfl (by decide) ?_
                                have t123 := zx_g61 hσ_232
                                refine zr_ishl (pc := 288) hV dX12_roomFor_288 ?_
                                have t124 := zx_shl_one (y := σ_232 0 61) 11 2048 (by decide) (by decide) (by omega)
                                refine zr_iadd (pc := 289) hV dX12_roomFor_289 ?_
                                refine zr_istore (pc := 290) hV [some (ZR 0), none, none, none, none, none, none, none, some (ZI (x8_214 + (zq_shl 1 (σ_232 0 61)))), some (ZI x9_232), some (ZI x10_232)] dX12_roomFor_290 (by decide) rfl rfl ?_
                                refine zr_goto (pc := 292) hV 214 dX12_roomFor_292 (by decide) ?_
                                have t125 := zx_g61 hσ_232
                                have t126 := zx_g61 hσ_232
                                refine zr_sub (pc := 214) hV [some (ZR 0), none, none, none, none, none, none, none, some (ZI (x8_214 + (zq_shl 1 (σ_232 0 61)))), none, none] (⟨rfl, rfl, trivial⟩) ?_
                                exact ih214 (x8_214 + (zq_shl 1 (σ_232 0 61))) σ_232 (by omega) hσ_232 hFσ_232 Mσ_232 Oσ_232 (by omega) (by have e1 := (zx_shl_one (y := σ_232 0 61) 11 2048 (by decide) (by decide) (by omega)).1; rw [e1, cg]; exact Int.dvd_add hi214_1 (Int.dvd_refl _)) (by omega)
                              · show V 278 [some (ZR 0), none, none, none, none, none, none, none, some (ZI x8_214), some (ZI x9_232), some (ZI x10_232)] [] 41 σ_232
                                refine zr_iload (pc := 278) hV dX12_roomFor_278 rfl ?_
                                exact zr_iret (pc := 280) hV dX12_roomFor_280 rfl rfl ⟨_, rfl, (by omega), hσ_232, hFσ_232, (by omega), Mσ_232, Oσ_232⟩
                            · show V 246 [some (ZR 0), none, none, none, none, none, none, none, some (ZI x8_214), some (ZI x9_232), some (ZI x10_232)] [] 41 σ_232
                              refine zr_iload (pc := 246) hV dX12_roomFor_246 rfl ?_
                              refine zr_if_eq (pc := 248) hV 273 dX12_roomFor_248 (by decide) (by omega) (fun c127 => ?_) (fun c127 => ?_)
                              · show V 273 [some (ZR 0), none, none, none, none, none, none, none, some (ZI x8_214), some (ZI x9_232), some (ZI x10_232)] [] 41 σ_232
                                refine zr_iload (pc := 273) hV dX12_roomFor_273 rfl ?_
                                refine zr_if_eq (pc := 275) hV 281 dX12_roomFor_275 (by decide) (by omega) (fun c128 => ?_) (fun c128 => ?_)
                                · show V 281 [some (ZR 0), none, none, none, none, none, none, none, some (ZI x8_214), some (ZI x9_232), some (ZI x10_232)] [] 41 σ_232
                                  refine zr_iload (pc := 281) hV dX12_roomFor_281 rfl ?_
                                  refine zr_iconst (pc := 283) hV 1 dX12_roomFor_283 rfl ?_
                                  refine zr_aload_n (pc := 284) hV dX12_roomFor_284 rfl rfl ?_
                                  refine zr_getI (pc := 285) hV 61 dX12_roomFor_285 fX12_470 rfl rfl rfl (by decide) ?_
                                  have t129 := zx_g61 hσ_232
                                  refine zr_ishl (pc := 288) hV dX12_roomFor_288 ?_
                                  have t130 := zx_shl_one (y := σ_232 0 61) 11 2048 (by decide) (by decide) (by omega)
                                  refine zr_iadd (pc := 289) hV dX12_roomFor_289 ?_
                                  refine zr_istore (pc := 290) hV [some (ZR 0), none, none, none, none, none, none, none, some (ZI (x8_214 + (zq_shl 1 (σ_232 0 61)))), some (ZI x9_232), some (ZI x10_232)] dX12_roomFor_290 (by decide) rfl rfl ?_
                                  refine zr_goto (pc := 292) hV 214 dX12_roomFor_292 (by decide) ?_
                                  have t131 := zx_g61 hσ_232
                                  have t132 := zx_g61 hσ_232
                                  refine zr_sub (pc := 214) hV [some (ZR 0), none, none, none, none, none, none, none, some (ZI (x8_214 + (zq_shl 1 (σ_232 0 61)))), none, none] (⟨rfl, rfl, trivial⟩) ?_
                                  exact ih214 (x8_214 + (zq_shl 1 (σ_232 0 61))) σ_232 (by omega) hσ_232 hFσ_232 Mσ_232 Oσ_232 (by omega) (by have e1 := (zx_shl_one (y := σ_232 0 61) 11 2048 (by decide) (by decide) (by omega)).1; rw [e1, cg]; exact Int.dvd_add hi214_1 (Int.dvd_refl _)) (by omega)
                                · exfalso; omega
                              · show V 251 [some (ZR 0), none, none, none, none, none, none, none, some (ZI x8_214), some (ZI x9_232), some (ZI x10_232)] [] 41 σ_232
                                refine zr_aload_n (pc := 251) hV dX12_roomFor_251 rfl rfl ?_
                                refine zr_iload (pc := 252) hV dX12_roomFor_252 rfl ?_
                                refine zr_callVi (pc := 254) hV [ZI x10_232] (st := []) (c_X12_ownerOf (σ := σ_232) hσ_232 x10_232 (by omega) Mσ_232) dX12_roomFor_254 mX12_283 rfl (by decide) (by decide) (Nat.le_of_ble_eq_true rfl) (Nat.le_refl _) (fun r254 σ254 hr254 pσ254 => ?_)
                                obtain ⟨hσ254, hfσ254, pσ254⟩ := pσ254
                                have Mσ254 : zx_M σ254 := pσ254.2.2.2.2.2
                                have Oσ254 : zx_O σ254 := zx_O_fr (fun i => hfσ254 2 i (by omega)) (fun i => hfσ254 5 i (by omega)) (fun i => hfσ254 6 i (by omega)) (hfσ254 0 2 (by omega)) (hfσ254 0 3 (by omega)) Oσ_232
                                have hFσ254 : ∀ a i : Int, (¬ (a = 0 ∧ i = 30) ∧ ¬ (a = 0 ∧ i = 61) ∧ a ≠ 18) → σ254 a i = σ a i := fun a i h => (hfσ254 a i ⟨h.1, h.2.2⟩).trans (hFσ_232 a i h)
                                have t133 := zx_g30 hσ_232
                                have t134 := zx_g30 hσ254
                                refine zr_if_ge (pc := 257) hV 264 dX12_roomFor_257 (by decide) (by omega) (fun c135 => ?_) (fun c135 => ?_)
                                · show V 264 [some (ZR 0), none, none, none, none, none, none, none, some (ZI x8_214), some (ZI x9_232), some (ZI x10_232)] [] 41 σ254
                                  refine zr_iconst (pc := 264) hV 0 dX12_roomFor_264 rfl ?_
                                  show V 265 [some (ZR 0), none, none, none, none, none, none, none, some (ZI x8_214), some (ZI x9_232), some (ZI x10_232)] [ZI 0] 41 σ254
                                  refine zr_istore (pc := 265) hV [some (ZR 0), none, none, none, none, none, none, none, some (ZI x8_214), some (ZI 0), some (ZI x10_232)] dX12_roomFor_265 (by decide) rfl rfl ?_
                                  refine zr_iinc (pc := 267) hV [some (ZR 0), none, none, none, none, none, none, none, some (ZI x8_214), some (ZI 0), some (ZI (x10_232 + 1))] (x10_232 + 1) dX12_roomFor_267 rfl rfl (by decide) rfl rfl ?_
                                  refine zr_goto (pc := 270) hV 232 dX12_roomFor_270 (by decide) ?_
                                  have t136 := zx_g61 hσ254
                                  have t137 : σ254 0 61 = σ_232 0 61 := hfσ254 _ _ (by omega)
                                  exact ih232 (x10_232 + 1) 0 σ254 (by omega) (by omega) hσ254 hFσ254 Mσ254 Oσ254 (by omega) (by omega) (by omega)
                                · show V 260 [some (ZR 0), none, none, none, none, none, none, none, some (ZI x8_214), some (ZI x9_232), some (ZI x10_232)] [] 41 σ254
                                  refine zr_iconst (pc := 260) hV 1 dX12_roomFor_260 rfl ?_
                                  refine zr_goto (pc := 261) hV 265 dX12_roomFor_261 (by decide) ?_
                                  show V 265 [some (ZR 0), none, none, none, none, none, none, none, some (ZI x8_214), some (ZI x9_232), some (ZI x10_232)] [ZI 1] 41 σ254
                                  refine zr_istore (pc := 265) hV [some (ZR 0), none, none, none, none, none, none, none, some (ZI x8_214), some (ZI 1), some (ZI x10_232)] dX12_roomFor_265 (by decide) rfl rfl ?_
                                  refine zr_iinc (pc := 267) hV [some (ZR 0), none, none, none, none, none, none, none, some (ZI x8_214), some (ZI 1), some (ZI (x10_232 + 1))] (x10_232 + 1) dX12_roomFor_267 rfl rfl (by decide) rfl rfl ?_
                                  refine zr_goto (pc := 270) hV 232 dX12_roomFor_270 (by decide) ?_
                                  have t138 := zx_g61 hσ254
                                  have t139 : σ254 0 61 = σ_232 0 61 := hfσ254 _ _ (by omega)
                                  exact ih232 (x10_232 + 1) 1 σ254 (by omega) (by omega) hσ254 hFσ254 Mσ254 Oσ254 (by omega) (by omega) (by omega)
                        have t140 := zx_g61 hσ_214
                        exact L232 (4096 - x8_214 + 1 : Int).toNat x8_214 1 σ_214 (by omega) (by omega) hσ_214 hFσ_214 Mσ_214 Oσ_214 (by omega) (by omega) (by omega)
                  have t141 := zx_g61 hσ_164
                  have t142 := zx_g61 hσ_164
                  refine zr_sub (pc := 214) hV [some (ZR 0), none, none, none, none, none, none, none, some (ZI 0), none, none] (⟨rfl, rfl, trivial⟩) ?_
                  exact L214 (4096 - (0 : Int) + 1 : Int).toNat 0 σ_164 (by omega) hσ_164 hFσ_164 Mσ_164 Oσ_164 (by omega) (Int.dvd_zero _) (by omega)
                · show V 208 [some (ZR 0), none, none, none, none, none, none, some (ZI (zq_or r122 r127)), some (ZI x8_164), none, none] [] 41 σ_164
                  refine zr_bipush (pc := 208) hV (-2) dX12_roomFor_208 (by decide) ?_
                  exact zr_iret (pc := 210) hV dX12_roomFor_210 rfl rfl ⟨_, rfl, ⟨by decide, by decide⟩, hσ_164, hFσ_164, (by omega), Mσ_164, Oσ_164⟩
              · show V 170 [some (ZR 0), none, none, none, none, none, none, some (ZI (zq_or r122 r127)), some (ZI x8_164), none, none] [] 41 σ_164
                refine zr_aload_n (pc := 170) hV dX12_roomFor_170 rfl rfl ?_
                refine zr_dup (pc := 171) hV dX12_roomFor_171 (fun _ => rfl) ?_
                refine zr_getI (pc := 172) hV 61 dX12_roomFor_172 fX12_470 rfl rfl rfl (by decide) ?_
                have t143 := zx_g61 hσ_164
                refine zr_iload (pc := 175) hV dX12_roomFor_175 rfl ?_
                refine zr_iload (pc := 177) hV dX12_roomFor_177 rfl ?_
                refine zr_ishr (pc := 179) hV dX12_roomFor_179 ?_
                have t144 := zq_shr_in (zq_or r122 r127) x8_164
                refine zr_iconst (pc := 180) hV 1 dX12_roomFor_180 rfl ?_
                refine zr_iand (pc := 181) hV dX12_roomFor_181 ?_
                have t145 := zq_and_mask (zq_shr (zq_or r122 r127) x8_164) 1 1 2 (by decide) (by decide) (by decide)
                refine zr_aload_n (pc := 182) hV dX12_roomFor_182 rfl rfl ?_
                refine zr_getI (pc := 183) hV 1 dX12_roomFor_183 fX12_13 rfl rfl rfl (by decide) ?_
                have t146 := zx_g1 hσ_164
                have t147 : σ_164 0 1 = σ 0 1 := hFσ_164 _ _ (by omega)
                refine zr_imul (pc := 186) hV dX12_roomFor_186 ?_
                have t148 := zq_mul_b (x := zq_and (zq_shr (zq_or r122 r127) x8_164) 1) (y := σ_164 0 1) 1 3 (by omega) (by omega)
                refine zr_iadd (pc := 187) hV dX12_roomFor_187 ?_
                refine zr_putI (pc := 188) hV 61 dX12_roomFor_188 fX12_470 rfl rfl rfl rfl (by decide) (fun σ188 eσ188 => ?_)
                have hσ188 : zx_T σ188 := zx_u61 eσ188 hσ_164 (by omega)
                have hFσ188 : ∀ a i : Int, (¬ (a = 0 ∧ i = 30) ∧ ¬ (a = 0 ∧ i = 61) ∧ a ≠ 18) → σ188 a i = σ a i := fun a i h => by rw [eσ188, zq_up_ne h.2.1]; exact hFσ_164 a i h
                have Mσ188 : zx_M σ188 := zx_M_fr (fun i => by rw [eσ188]; exact zq_up_ne (by omega)) (by rw [eσ188]; exact zq_up_ne (by omega)) (by rw [eσ188]; exact zq_up_ne (by omega)) (by rw [eσ188]; exact zq_up_ne (by omega)) Mσ_164
                have Oσ188 : zx_O σ188 := zx_O_fr (fun i => by rw [eσ188]; exact zq_up_ne (by omega)) (fun i => by rw [eσ188]; exact zq_up_ne (by omega)) (fun i => by rw [eσ188]; exact zq_up_ne (by omega)) (by rw [eσ188]; exact zq_up_ne (by omega)) (by rw [eσ188]; exact zq_up_ne (by omega)) Oσ_164
                refine zr_iinc (pc := 191) hV [some (ZR 0), none, none, none, none, none, none, some (ZI (zq_or r122 r127)), some (ZI (x8_164 + 1)), none, none] (x8_164 + 1) dX12_roomFor_191 rfl rfl (by decide) rfl rfl ?_
                refine zr_goto (pc := 194) hV 164 dX12_roomFor_194 (by decide) ?_
                have t149 := zx_g61 hσ188
                have t150 : σ188 0 61 = (σ_164 0 61) + ((zq_and (zq_shr (zq_or r122 r127) x8_164) 1) * (σ_164 0 1)) := by rw [eσ188]; exact zq_up_same _ _ _ _
                have t151 := zx_g61 hσ188
                have t152 : σ188 0 61 = (σ_164 0 61) + ((zq_and (zq_shr (zq_or r122 r127) x8_164) 1) * (σ_164 0 1)) := by rw [eσ188]; exact zq_up_same _ _ _ _
                exact ih164 (x8_164 + 1) σ188 (by omega) hσ188 hFσ188 Mσ188 Oσ188 (by omega) (by omega) (by omega)
          have t153 := zx_g61 hσ158
          have t154 : σ158 0 61 = r15 := by rw [eσ158]; exact zq_up_same _ _ _ _
          have t155 := zx_g61 hσ158
          have t156 : σ158 0 61 = r15 := by rw [eσ158]; exact zq_up_same _ _ _ _
          refine zr_sub (pc := 164) hV [some (ZR 0), none, none, none, none, none, none, some (ZI (zq_or r122 r127)), some (ZI 0), none, none] (⟨rfl, rfl, rfl, trivial⟩) ?_
          exact L164 (3 - (0 : Int) + 1 : Int).toNat 0 σ158 (by omega) hσ158 hFσ158 Mσ158 Oσ158 (by omega) (by omega) (by omega)
    · show V 117 [some (ZR 0), some (ZI a), some (ZI c), none, some (ZI r15), some (ZI r23), some (ZI v0_110), none, none, none, none] [] 41 σ
      refine zr_bipush (pc := 117) hV (-2) dX12_roomFor_117 (by decide) ?_
      exact zr_iret (pc := 119) hV dX12_roomFor_119 rfl rfl ⟨_, rfl, ⟨by decide, by decide⟩, hσ, (fun a i _ => rfl), (by omega), Mσ, Oσ⟩
  have J109 : V 109 [some (ZR 0), some (ZI a), some (ZI c), none, some (ZI r15), some (ZI r23), none, none, none, none, none] [] 41 σ := by
    show V 109 [some (ZR 0), some (ZI a), some (ZI c), none, some (ZI r15), some (ZI r23), none, none, none, none, none] [] 41 σ
    refine zr_iconst (pc := 109) hV 0 dX12_roomFor_109 rfl ?_
    exact J110 0 (by omega)
  refine zr_if_ne (pc := 34) hV 109 dX12_roomFor_34 (by decide) (by omega) (fun c157 => ?_) (fun c157 => ?_)
  · refine zr_sub (pc := 109) hV [some (ZR 0), some (ZI a), some (ZI c), none, some (ZI r15), some (ZI r23), none, none, none, none, none] (⟨rfl, rfl, rfl, rfl, rfl, trivial⟩) ?_
    exact J109
  · show V 37 [some (ZR 0), some (ZI a), some (ZI c), some (ZI (zq_or r2 r7)), some (ZI r15), some (ZI r23), none, none, none, none, none] [] 41 σ
    refine zr_aload_n (pc := 37) hV dX12_roomFor_37 rfl rfl ?_
    refine zr_getR (pc := 38) hV 6 3 dX12_roomFor_38 fX12_26 rfl rfl rfl (by decide) (zx_g6 hσ) (by omega) ?_
    refine zr_iload_n (pc := 41) hV dX12_roomFor_41 rfl rfl ?_
    refine zr_iald (pc := 42) hV dX12_roomFor_42 rfl (by decide) rfl (by omega) ?_
    have t158 := zx_ga3 hσ c
    refine zr_if_ne (pc := 43) hV 109 dX12_roomFor_43 (by decide) (by omega) (fun c159 => ?_) (fun c159 => ?_)
    · refine zr_sub (pc := 109) hV [some (ZR 0), some (ZI a), some (ZI c), none, some (ZI r15), some (ZI r23), none, none, none, none, none] (⟨rfl, rfl, rfl, rfl, rfl, trivial⟩) ?_
      exact J109
    · show V 46 [some (ZR 0), some (ZI a), some (ZI c), some (ZI (zq_or r2 r7)), some (ZI r15), some (ZI r23), none, none, none, none, none] [] 41 σ
      refine zr_iload_n (pc := 46) hV dX12_roomFor_46 rfl rfl ?_
      refine zr_bipush (pc := 47) hV 16 dX12_roomFor_47 (by decide) ?_
      refine zr_iand (pc := 49) hV dX12_roomFor_49 ?_
      have t160 := zq_and_nnR (x := zq_or r2 r7) (y := 16) (by omega)
      refine zr_if_ne (pc := 50) hV 109 dX12_roomFor_50 (by decide) (by omega) (fun c161 => ?_) (fun c161 => ?_)
      · refine zr_sub (pc := 109) hV [some (ZR 0), some (ZI a), some (ZI c), none, some (ZI r15), some (ZI r23), none, none, none, none, none] (⟨rfl, rfl, rfl, rfl, rfl, trivial⟩) ?_
        exact J109
      · show V 53 [some (ZR 0), some (ZI a), some (ZI c), some (ZI (zq_or r2 r7)), some (ZI r15), some (ZI r23), none, none, none, none, none] [] 41 σ
        refine zr_aload_n (pc := 53) hV dX12_roomFor_53 rfl rfl ?_
        refine zr_getR (pc := 54) hV 8 5 dX12_roomFor_54 fX12_32 rfl rfl rfl (by decide) (zx_g8 hσ) (by omega) ?_
        refine zr_iload_n (pc := 57) hV dX12_roomFor_57 rfl rfl ?_
        refine zr_iald (pc := 58) hV dX12_roomFor_58 rfl (by decide) rfl (by omega) ?_
        have t162 := zx_ga5 hσ a
        refine zr_aload_n (pc := 59) hV dX12_roomFor_59 rfl rfl ?_
        refine zr_getR (pc := 60) hV 8 5 dX12_roomFor_60 fX12_32 rfl rfl rfl (by decide) (zx_g8 hσ) (by omega) ?_
        refine zr_iload_n (pc := 63) hV dX12_roomFor_63 rfl rfl ?_
        refine zr_iald (pc := 64) hV dX12_roomFor_64 rfl (by decide) rfl (by omega) ?_
        have t163 := zx_ga5 hσ c
        refine zr_iadd (pc := 65) hV dX12_roomFor_65 ?_
        refine zr_iconst (pc := 66) hV 3 dX12_roomFor_66 rfl ?_
        refine zr_icmp_gt (pc := 67) hV 109 dX12_roomFor_67 (by decide) (by omega) ⟨by decide, by decide⟩ (fun c164 => ?_) (fun c164 => ?_)
        · refine zr_sub (pc := 109) hV [some (ZR 0), some (ZI a), some (ZI c), none, some (ZI r15), some (ZI r23), none, none, none, none, none] (⟨rfl, rfl, rfl, rfl, rfl, trivial⟩) ?_
          exact J109
        · show V 70 [some (ZR 0), some (ZI a), some (ZI c), some (ZI (zq_or r2 r7)), some (ZI r15), some (ZI r23), none, none, none, none, none] [] 41 σ
          refine zr_aload_n (pc := 70) hV dX12_roomFor_70 rfl rfl ?_
          refine zr_getR (pc := 71) hV 10 7 dX12_roomFor_71 fX12_38 rfl rfl rfl (by decide) (zx_g10 hσ) (by omega) ?_
          refine zr_iload_n (pc := 74) hV dX12_roomFor_74 rfl rfl ?_
          refine zr_iald (pc := 75) hV dX12_roomFor_75 rfl (by decide) rfl (by omega) ?_
          have t165 := zx_ga7 hσ a
          refine zr_aload_n (pc := 76) hV dX12_roomFor_76 rfl rfl ?_
          refine zr_getR (pc := 77) hV 10 7 dX12_roomFor_77 fX12_38 rfl rfl rfl (by decide) (zx_g10 hσ) (by omega) ?_
          refine zr_iload_n (pc := 80) hV dX12_roomFor_80 rfl rfl ?_
          refine zr_iald (pc := 81) hV dX12_roomFor_81 rfl (by decide) rfl (by omega) ?_
          have t166 := zx_ga7 hσ c
          refine zr_iadd (pc := 82) hV dX12_roomFor_82 ?_
          refine zr_bipush (pc := 83) hV 10 dX12_roomFor_83 (by decide) ?_
          refine zr_icmp_gt (pc := 85) hV 109 dX12_roomFor_85 (by decide) (by omega) ⟨by decide, by decide⟩ (fun c167 => ?_) (fun c167 => ?_)
          · refine zr_sub (pc := 109) hV [some (ZR 0), some (ZI a), some (ZI c), none, some (ZI r15), some (ZI r23), none, none, none, none, none] (⟨rfl, rfl, rfl, rfl, rfl, trivial⟩) ?_
            exact J109
          · show V 88 [some (ZR 0), some (ZI a), some (ZI c), some (ZI (zq_or r2 r7)), some (ZI r15), some (ZI r23), none, none, none, none, none] [] 41 σ
            refine zr_iload (pc := 88) hV dX12_roomFor_88 rfl ?_
            have J105 : V 105 [some (ZR 0), some (ZI a), some (ZI c), none, some (ZI r15), some (ZI r23), none, none, none, none, none] [] 41 σ := by
              show V 105 [some (ZR 0), some (ZI a), some (ZI c), none, some (ZI r15), some (ZI r23), none, none, none, none, none] [] 41 σ
              refine zr_iconst (pc := 105) hV 1 dX12_roomFor_105 rfl ?_
              refine zr_goto (pc := 106) hV 110 dX12_roomFor_106 (by decide) ?_
              exact J110 1 (by omega)
            refine zr_if_eq (pc := 90) hV 105 dX12_roomFor_90 (by decide) (by omega) (fun c168 => ?_) (fun c168 => ?_)
            · refine zr_sub (pc := 105) hV [some (ZR 0), some (ZI a), some (ZI c), none, some (ZI r15), some (ZI r23), none, none, none, none, none] (⟨rfl, rfl, rfl, rfl, rfl, trivial⟩) ?_
              exact J105
            · show V 93 [some (ZR 0), some (ZI a), some (ZI c), some (ZI (zq_or r2 r7)), some (ZI r15), some (ZI r23), none, none, none, none, none] [] 41 σ
              refine zr_iload (pc := 93) hV dX12_roomFor_93 rfl ?_
              refine zr_if_eq (pc := 95) hV 105 dX12_roomFor_95 (by decide) (by omega) (fun c169 => ?_) (fun c169 => ?_)
              · refine zr_sub (pc := 105) hV [some (ZR 0), some (ZI a), some (ZI c), none, some (ZI r15), some (ZI r23), none, none, none, none, none] (⟨rfl, rfl, rfl, rfl, rfl, trivial⟩) ?_
                exact J105
              · show V 98 [some (ZR 0), some (ZI a), some (ZI c), some (ZI (zq_or r2 r7)), some (ZI r15), some (ZI r23), none, none, none, none, none] [] 41 σ
                refine zr_iload (pc := 98) hV dX12_roomFor_98 rfl ?_
                refine zr_iload (pc := 100) hV dX12_roomFor_100 rfl ?_
                refine zr_icmp_ne (pc := 102) hV 109 dX12_roomFor_102 (by decide) (by omega) (by omega) (fun c170 => ?_) (fun c170 => ?_)
                · refine zr_sub (pc := 109) hV [some (ZR 0), some (ZI a), some (ZI c), none, some (ZI r15), some (ZI r23), none, none, none, none, none] (⟨rfl, rfl, rfl, rfl, rfl, trivial⟩) ?_
                  exact J109
                · refine zr_sub (pc := 105) hV [some (ZR 0), some (ZI a), some (ZI c), none, some (ZI r15), some (ZI r23), none, none, none, none, none] (⟨rfl, rfl, rfl, rfl, rfl, trivial⟩) ?_
                  exact J105
set_option maxHeartbeats 800000 in
theorem c_X12_room {σ : zq_S} (hσ : zx_T σ) (a c : Int) (q0 : zq_in a) (q1 : zq_in c) (Mσ : zx_M σ) (Oσ : zx_O σ) : zq_C zx_w yX12_room cX12_room 3 (some .int) 4 99 41 41 [ZR 0, ZI a, ZI c] σ (zq_pi (fun r τ => zx_T τ ∧ (∀ a i : Int, (¬ (a = 0 ∧ i = 30) ∧ ¬ (a = 0 ∧ i = 61) ∧ a ≠ 18) → τ a i = σ a i) ∧ (True) ∧ zx_M τ ∧ zx_O τ)) := by
  refine zq_C_of (by decide) (Nat.le_refl _) (Nat.le_of_ble_eq_true rfl) [some (ZR 0), some (ZI a), some (ZI c)] rfl (fun V hV => ?_)
  show V 0 [some (ZR 0), some (ZI a), some (ZI c)] [] 41 σ
  refine zr_aload_n (pc := 0) hV dX12_room_0 rfl rfl ?_
  refine zr_iload_n (pc := 1) hV dX12_room_1 rfl rfl ?_
  refine zr_callVp (pc := 2) hV [ZI a] (st := []) (c_X12_isOrder (σ := σ) hσ a (by omega)) dX12_room_2 mX12_271 rfl (by decide) (by decide) (Nat.le_of_ble_eq_true rfl) (Nat.le_refl _) (fun r2 hr2 pr2 => ?_)
  have t1 := zx_g3 hσ
  refine zr_if_eq (pc := 5) hV 25 dX12_room_5 (by decide) (by omega) (fun c2 => ?_) (fun c2 => ?_)
  · show V 25 [some (ZR 0), some (ZI a), some (ZI c)] [] 41 σ
    refine zr_iconst (pc := 25) hV (-1) dX12_room_25 rfl ?_
    show V 26 [some (ZR 0), some (ZI a), some (ZI c)] [ZI (-1)] 41 σ
    exact zr_iret (pc := 26) hV dX12_room_26 rfl rfl ⟨_, rfl, ⟨by decide, by decide⟩, hσ, (fun a i _ => rfl), trivial, Mσ, Oσ⟩
  · show V 8 [some (ZR 0), some (ZI a), some (ZI c)] [] 41 σ
    refine zr_aload_n (pc := 8) hV dX12_room_8 rfl rfl ?_
    refine zr_iload_n (pc := 9) hV dX12_room_9 rfl rfl ?_
    refine zr_callVp (pc := 10) hV [ZI c] (st := []) (c_X12_isOrder (σ := σ) hσ c (by omega)) dX12_room_10 mX12_271 rfl (by decide) (by decide) (Nat.le_of_ble_eq_true rfl) (Nat.le_refl _) (fun r10 hr10 pr10 => ?_)
    have t3 := zx_g3 hσ
    refine zr_if_eq (pc := 13) hV 25 dX12_room_13 (by decide) (by omega) (fun c4 => ?_) (fun c4 => ?_)
    · show V 25 [some (ZR 0), some (ZI a), some (ZI c)] [] 41 σ
      refine zr_iconst (pc := 25) hV (-1) dX12_room_25 rfl ?_
      show V 26 [some (ZR 0), some (ZI a), some (ZI c)] [ZI (-1)] 41 σ
      exact zr_iret (pc := 26) hV dX12_room_26 rfl rfl ⟨_, rfl, ⟨by decide, by decide⟩, hσ, (fun a i _ => rfl), trivial, Mσ, Oσ⟩
    · show V 16 [some (ZR 0), some (ZI a), some (ZI c)] [] 41 σ
      refine zr_aload_n (pc := 16) hV dX12_room_16 rfl rfl ?_
      refine zr_iload_n (pc := 17) hV dX12_room_17 rfl rfl ?_
      refine zr_iload_n (pc := 18) hV dX12_room_18 rfl rfl ?_
      have t5 := zx_g3 hσ
      have t6 := zx_g3 hσ
      refine zr_callVi (pc := 19) hV [ZI a, ZI c] (st := []) (c_X12_roomFor (σ := σ) hσ a c (by omega) (by omega) Mσ Oσ) dX12_room_19 mX12_473 rfl (by decide) (by decide) (Nat.le_of_ble_eq_true rfl) (Nat.le_refl _) (fun r19 σ19 hr19 pσ19 => ?_)
      obtain ⟨hσ19, hfσ19, pσ19, Mσ19, Oσ19⟩ := pσ19
      have hFσ19 : ∀ a i : Int, (¬ (a = 0 ∧ i = 30) ∧ ¬ (a = 0 ∧ i = 61) ∧ a ≠ 18) → σ19 a i = σ a i := fun a i h => (hfσ19 a i ⟨h.1, h.2.1, h.2.2⟩)
      refine zr_goto (pc := 22) hV 26 dX12_room_22 (by decide) ?_
      show V 26 [some (ZR 0), some (ZI a), some (ZI c)] [ZI r19] 41 σ19
      exact zr_iret (pc := 26) hV dX12_room_26 rfl rfl ⟨_, rfl, (by omega), hσ19, hFσ19, trivial, Mσ19, Oσ19⟩
set_option maxHeartbeats 800000 in
theorem c_X12_best {σ : zq_S} (hσ : zx_T σ) (end_ : Int) (q0 : zq_in end_) (Mσ : zx_M σ) (Oσ : zx_O σ) : zq_C zx_w yX12_best cX12_best 7 (some .int) 5 121 41 41 [ZR 0, ZI end_] σ (zq_pi (fun r τ => zx_T τ ∧ (∀ a i : Int, (¬ (a = 0 ∧ i = 30) ∧ ¬ (a = 0 ∧ i = 61) ∧ a ≠ 18) → τ a i = σ a i) ∧ (True) ∧ zx_M τ ∧ zx_O τ)) := by
  refine zq_C_of (by decide) (Nat.le_refl _) (Nat.le_of_ble_eq_true rfl) [some (ZR 0), some (ZI end_), none, none, none, none, none] rfl (fun V hV => ?_)
  show V 0 [some (ZR 0), some (ZI end_), none, none, none, none, none] [] 41 σ
  refine zr_iload_n (pc := 0) hV dX12_best_0 rfl rfl ?_
  refine zr_i2l (pc := 1) hV dX12_best_1 (by omega) ?_
  refine zr_lconst (pc := 2) hV 0 dX12_best_2 (by decide) ?_
  refine zr_ldc2 (pc := 3) (v := 64) hV 64 dX12_best_3 kX12_465 (by decide) ?_
  refine zr_callSp (pc := 6) hV [ZL end_, ZL 0, ZL 64] (st := []) (c_X12_in (σ := σ) end_ 0 64 (by omega) (by omega) (by omega)) dX12_best_6 mX12_170 (by decide) (Nat.le_of_ble_eq_true rfl) (Nat.le_refl _) (fun r6 hr6 pr6 => ?_)
  refine zr_if_ne (pc := 9) hV 14 dX12_best_9 (by decide) (by omega) (fun c1 => ?_) (fun c1 => ?_)
  · show V 14 [some (ZR 0), some (ZI end_), none, none, none, none, none] [] 41 σ
    refine zr_bipush (pc := 14) hV (-4) dX12_best_14 (by decide) ?_
    refine zr_istore_n (pc := 16) hV [some (ZR 0), some (ZI end_), some (ZI (-4)), none, none, none, none] dX12_best_16 rfl (by decide) rfl rfl ?_
    refine zr_iconst (pc := 17) hV 0 dX12_best_17 rfl ?_
    refine zr_istore_n (pc := 18) hV [some (ZR 0), some (ZI end_), some (ZI (-4)), some (ZI 0), none, none, none] dX12_best_18 rfl (by decide) rfl rfl ?_
    refine zr_iconst (pc := 19) hV 0 dX12_best_19 rfl ?_
    refine zr_istore (pc := 20) hV [some (ZR 0), some (ZI end_), some (ZI (-4)), some (ZI 0), some (ZI 0), none, none] dX12_best_20 (by decide) rfl rfl ?_
    have L22 : ∀ (fuel : Nat) (x2_22 : Int) (x3_22 : Int) (x4_22 : Int) (σ_22 : zq_S), ((-4) ≤ x2_22 ∧ x2_22 ≤ 2147483647) → (0 ≤ x3_22 ∧ x3_22 ≤ 2147483647) → (0 ≤ x4_22 ∧ x4_22 ≤ 20) → (zx_T σ_22) → (∀ a i : Int, (¬ (a = 0 ∧ i = 30) ∧ ¬ (a = 0 ∧ i = 61) ∧ a ≠ 18) → σ_22 a i = σ a i) → (zx_M σ_22) → (zx_O σ_22) → 20 - x4_22 < (fuel : Int) → V 22 [some (ZR 0), some (ZI end_), some (ZI x2_22), some (ZI x3_22), some (ZI x4_22), none, none] [] 41 σ_22 := by
      intro fuel
      induction fuel with
      | zero =>
        intro x2_22 x3_22 x4_22 σ_22 hx2_22 hx3_22 hx4_22 hσ_22 hFσ_22 Mσ_22 Oσ_22 hm22
        exfalso; omega
      | succ fuel ih =>
        intro x2_22 x3_22 x4_22 σ_22 hx2_22 hx3_22 hx4_22 hσ_22 hFσ_22 Mσ_22 Oσ_22 hm22
        have ih22 := ih
        show V 22 [some (ZR 0), some (ZI end_), some (ZI x2_22), some (ZI x3_22), some (ZI x4_22), none, none] [] 41 σ_22
        refine zr_iload (pc := 22) hV dX12_best_22 rfl ?_
        refine zr_aload_n (pc := 24) hV dX12_best_24 rfl rfl ?_
        refine zr_getI (pc := 25) hV 3 dX12_best_25 fX12_150 rfl rfl rfl (by decide) ?_
        have t2 := zx_g3 hσ_22
        have t3 : σ_22 0 3 = σ 0 3 := hFσ_22 _ _ (by omega)
        refine zr_icmp_ge (pc := 28) hV 95 dX12_best_28 (by decide) (by omega) (by omega) (fun c4 => ?_) (fun c4 => ?_)
        · show V 95 [some (ZR 0), some (ZI end_), some (ZI x2_22), some (ZI x3_22), some (ZI x4_22), none, none] [] 41 σ_22
          refine zr_iload_n (pc := 95) hV dX12_best_95 rfl rfl ?_
          exact zr_iret (pc := 96) hV dX12_best_96 rfl rfl ⟨_, rfl, (by omega), hσ_22, hFσ_22, trivial, Mσ_22, Oσ_22⟩
        · show V 31 [some (ZR 0), some (ZI end_), some (ZI x2_22), some (ZI x3_22), some (ZI x4_22), none, none] [] 41 σ_22
          refine zr_iconst (pc := 31) hV 0 dX12_best_31 rfl ?_
          refine zr_istore (pc := 32) hV [some (ZR 0), some (ZI end_), some (ZI x2_22), some (ZI x3_22), some (ZI x4_22), some (ZI 0), none] dX12_best_32 (by decide) rfl rfl ?_
          have L34 : ∀ (fuel : Nat) (x2_34 : Int) (x3_34 : Int) (x5_34 : Int) (σ_34 : zq_S), ((-4) ≤ x2_34 ∧ x2_34 ≤ 2147483647) → (0 ≤ x3_34 ∧ x3_34 ≤ 2147483647) → (0 ≤ x5_34 ∧ x5_34 ≤ 20) → (zx_T σ_34) → (∀ a i : Int, (¬ (a = 0 ∧ i = 30) ∧ ¬ (a = 0 ∧ i = 61) ∧ a ≠ 18) → σ_34 a i = σ a i) → (zx_M σ_34) → (zx_O σ_34) → 20 - x5_34 < (fuel : Int) → V 34 [some (ZR 0), some (ZI end_), some (ZI x2_34), some (ZI x3_34), some (ZI x4_22), some (ZI x5_34), none] [] 41 σ_34 := by
            intro fuel
            induction fuel with
            | zero =>
              intro x2_34 x3_34 x5_34 σ_34 hx2_34 hx3_34 hx5_34 hσ_34 hFσ_34 Mσ_34 Oσ_34 hm34
              exfalso; omega
            | succ fuel ih =>
              intro x2_34 x3_34 x5_34 σ_34 hx2_34 hx3_34 hx5_34 hσ_34 hFσ_34 Mσ_34 Oσ_34 hm34
              have ih34 := ih
              show V 34 [some (ZR 0), some (ZI end_), some (ZI x2_34), some (ZI x3_34), some (ZI x4_22), some (ZI x5_34), none] [] 41 σ_34
              refine zr_iload (pc := 34) hV dX12_best_34 rfl ?_
              refine zr_aload_n (pc := 36) hV dX12_best_36 rfl rfl ?_
              refine zr_getI (pc := 37) hV 3 dX12_best_37 fX12_150 rfl rfl rfl (by decide) ?_
              have t5 := zx_g3 hσ_34
              have t6 : σ_34 0 3 = σ 0 3 := hFσ_34 _ _ (by omega)
              refine zr_icmp_ge (pc := 40) hV 89 dX12_best_40 (by decide) (by omega) (by omega) (fun c7 => ?_) (fun c7 => ?_)
              · show V 89 [some (ZR 0), some (ZI end_), some (ZI x2_34), some (ZI x3_34), some (ZI x4_22), some (ZI x5_34), none] [] 41 σ_34
                refine zr_iinc (pc := 89) hV [some (ZR 0), some (ZI end_), some (ZI x2_34), some (ZI x3_34), some (ZI (x4_22 + 1)), some (ZI x5_34), none] (x4_22 + 1) dX12_best_89 rfl rfl (by decide) rfl rfl ?_
                refine zr_goto (pc := 92) hV 22 dX12_best_92 (by decide) ?_
                refine zr_sub (pc := 22) hV [some (ZR 0), some (ZI end_), some (ZI x2_34), some (ZI x3_34), some (ZI (x4_22 + 1)), none, none] (⟨rfl, rfl, rfl, rfl, rfl, trivial⟩) ?_
                exact ih22 x2_34 x3_34 (x4_22 + 1) σ_34 (by omega) (by omega) (by omega) hσ_34 hFσ_34 Mσ_34 Oσ_34 (by omega)
              · show V 43 [some (ZR 0), some (ZI end_), some (ZI x2_34), some (ZI x3_34), some (ZI x4_22), some (ZI x5_34), none] [] 41 σ_34
                refine zr_aload_n (pc := 43) hV dX12_best_43 rfl rfl ?_
                refine zr_iload (pc := 44) hV dX12_best_44 rfl ?_
                refine zr_iload (pc := 46) hV dX12_best_46 rfl ?_
                refine zr_iload_n (pc := 48) hV dX12_best_48 rfl rfl ?_
                have t8 := zx_g3 hσ_34
                have t9 : σ_34 0 3 = σ 0 3 := hFσ_34 _ _ (by omega)
                have t10 := zx_g3 hσ_34
                have t11 : σ_34 0 3 = σ 0 3 := hFσ_34 _ _ (by omega)
                refine zr_callVi (pc := 49) hV [ZI x4_22, ZI x5_34, ZI end_] (st := []) (c_X12_pairsOf (σ := σ_34) hσ_34 x4_22 x5_34 end_ (by omega) (by omega) (by omega) Mσ_34 Oσ_34) dX12_best_49 mX12_467 rfl (by decide) (by decide) (Nat.le_of_ble_eq_true rfl) (Nat.le_refl _) (fun r49 σ49 hr49 pσ49 => ?_)
                obtain ⟨hσ49, hfσ49, pσ49, Mσ49, Oσ49⟩ := pσ49
                have hFσ49 : ∀ a i : Int, (¬ (a = 0 ∧ i = 30) ∧ ¬ (a = 0 ∧ i = 61) ∧ a ≠ 18) → σ49 a i = σ a i := fun a i h => (hfσ49 a i ⟨h.1, h.2.2⟩).trans (hFσ_34 a i h)
                refine zr_istore (pc := 52) hV [some (ZR 0), some (ZI end_), some (ZI x2_34), some (ZI x3_34), some (ZI x4_22), some (ZI x5_34), some (ZI r49)] dX12_best_52 (by decide) rfl rfl ?_
                refine zr_iload (pc := 54) hV dX12_best_54 rfl ?_
                refine zr_iload_n (pc := 56) hV dX12_best_56 rfl rfl ?_
                refine zr_icmp_le (pc := 57) hV 83 dX12_best_57 (by decide) (by omega) (by omega) (fun c12 => ?_) (fun c12 => ?_)
                · show V 83 [some (ZR 0), some (ZI end_), some (ZI x2_34), some (ZI x3_34), some (ZI x4_22), some (ZI x5_34), some (ZI r49)] [] 41 σ49
                  refine zr_iinc (pc := 83) hV [some (ZR 0), some (ZI end_), some (ZI x2_34), some (ZI x3_34), some (ZI x4_22), some (ZI (x5_34 + 1)), some (ZI r49)] (x5_34 + 1) dX12_best_83 rfl rfl (by decide) rfl rfl ?_
                  refine zr_goto (pc := 86) hV 34 dX12_best_86 (by decide) ?_
                  refine zr_sub (pc := 34) hV [some (ZR 0), some (ZI end_), some (ZI x2_34), some (ZI x3_34), some (ZI x4_22), some (ZI (x5_34 + 1)), none] (⟨rfl, rfl, rfl, rfl, rfl, rfl, trivial⟩) ?_
                  exact ih34 x2_34 x3_34 (x5_34 + 1) σ49 (by omega) (by omega) (by omega) hσ49 hFσ49 Mσ49 Oσ49 (by omega)
                · show V 60 [some (ZR 0), some (ZI end_), some (ZI x2_34), some (ZI x3_34), some (ZI x4_22), some (ZI x5_34), some (ZI r49)] [] 41 σ49
                  refine zr_aload_n (pc := 60) hV dX12_best_60 rfl rfl ?_
                  refine zr_iload (pc := 61) hV dX12_best_61 rfl ?_
                  refine zr_iload (pc := 63) hV dX12_best_63 rfl ?_
                  have t13 := zx_g3 hσ49
                  have t14 : σ49 0 3 = σ_34 0 3 := hfσ49 _ _ (by omega)
                  have t15 : σ_34 0 3 = σ 0 3 := hFσ_34 _ _ (by omega)
                  have t16 := zx_g3 hσ49
                  have t17 : σ49 0 3 = σ_34 0 3 := hfσ49 _ _ (by omega)
                  have t18 : σ_34 0 3 = σ 0 3 := hFσ_34 _ _ (by omega)
                  refine zr_callVi (pc := 65) hV [ZI x4_22, ZI x5_34] (st := []) (c_X12_roomFor (σ := σ49) hσ49 x4_22 x5_34 (by omega) (by omega) Mσ49 Oσ49) dX12_best_65 mX12_473 rfl (by decide) (by decide) (Nat.le_of_ble_eq_true rfl) (Nat.le_refl _) (fun r65 σ65 hr65 pσ65 => ?_)
                  obtain ⟨hσ65, hfσ65, pσ65, Mσ65, Oσ65⟩ := pσ65
                  have hFσ65 : ∀ a i : Int, (¬ (a = 0 ∧ i = 30) ∧ ¬ (a = 0 ∧ i = 61) ∧ a ≠ 18) → σ65 a i = σ a i := fun a i h => (hfσ65 a i ⟨h.1, h.2.1, h.2.2⟩).trans (hFσ49 a i h)
                  refine zr_if_lt (pc := 68) hV 83 dX12_best_68 (by decide) (by omega) (fun c19 => ?_) (fun c19 => ?_)
                  · show V 83 [some (ZR 0), some (ZI end_), some (ZI x2_34), some (ZI x3_34), some (ZI x4_22), some (ZI x5_34), some (ZI r49)] [] 41 σ65
                    refine zr_iinc (pc := 83) hV [some (ZR 0), some (ZI end_), some (ZI x2_34), some (ZI x3_34), some (ZI x4_22), some (ZI (x5_34 + 1)), some (ZI r49)] (x5_34 + 1) dX12_best_83 rfl rfl (by decide) rfl rfl ?_
                    refine zr_goto (pc := 86) hV 34 dX12_best_86 (by decide) ?_
                    refine zr_sub (pc := 34) hV [some (ZR 0), some (ZI end_), some (ZI x2_34), some (ZI x3_34), some (ZI x4_22), some (ZI (x5_34 + 1)), none] (⟨rfl, rfl, rfl, rfl, rfl, rfl, trivial⟩) ?_
                    exact ih34 x2_34 x3_34 (x5_34 + 1) σ65 (by omega) (by omega) (by omega) hσ65 hFσ65 Mσ65 Oσ65 (by omega)
                  · show V 71 [some (ZR 0), some (ZI end_), some (ZI x2_34), some (ZI x3_34), some (ZI x4_22), some (ZI x5_34), some (ZI r49)] [] 41 σ65
                    refine zr_iload (pc := 71) hV dX12_best_71 rfl ?_
                    refine zr_istore_n (pc := 73) hV [some (ZR 0), some (ZI end_), some (ZI x2_34), some (ZI r49), some (ZI x4_22), some (ZI x5_34), some (ZI r49)] dX12_best_73 rfl (by decide) rfl rfl ?_
                    refine zr_bipush (pc := 74) hV 20 dX12_best_74 (by decide) ?_
                    refine zr_iload (pc := 76) hV dX12_best_76 rfl ?_
                    refine zr_imul (pc := 78) hV dX12_best_78 ?_
                    refine zr_iload (pc := 79) hV dX12_best_79 rfl ?_
                    refine zr_iadd (pc := 81) hV dX12_best_81 ?_
                    refine zr_istore_n (pc := 82) hV [some (ZR 0), some (ZI end_), some (ZI ((20 * x4_22) + x5_34)), some (ZI r49), some (ZI x4_22), some (ZI x5_34), some (ZI r49)] dX12_best_82 rfl (by decide) rfl rfl ?_
                    show V 83 [some (ZR 0), some (ZI end_), some (ZI ((20 * x4_22) + x5_34)), some (ZI r49), some (ZI x4_22), some (ZI x5_34), some (ZI r49)] [] 41 σ65
                    refine zr_iinc (pc := 83) hV [some (ZR 0), some (ZI end_), some (ZI ((20 * x4_22) + x5_34)), some (ZI r49), some (ZI x4_22), some (ZI (x5_34 + 1)), some (ZI r49)] (x5_34 + 1) dX12_best_83 rfl rfl (by decide) rfl rfl ?_
                    refine zr_goto (pc := 86) hV 34 dX12_best_86 (by decide) ?_
                    refine zr_sub (pc := 34) hV [some (ZR 0), some (ZI end_), some (ZI ((20 * x4_22) + x5_34)), some (ZI r49), some (ZI x4_22), some (ZI (x5_34 + 1)), none] (⟨rfl, rfl, rfl, rfl, rfl, rfl, trivial⟩) ?_
                    exact ih34 ((20 * x4_22) + x5_34) r49 (x5_34 + 1) σ65 (by omega) (by omega) (by omega) hσ65 hFσ65 Mσ65 Oσ65 (by omega)
          exact L34 (20 - (0 : Int) + 1 : Int).toNat x2_22 x3_22 0 σ_22 (by omega) (by omega) (by omega) hσ_22 hFσ_22 Mσ_22 Oσ_22 (by omega)
    exact L22 (20 - (0 : Int) + 1 : Int).toNat (-4) 0 0 σ (by omega) (by omega) (by omega) hσ (fun a i _ => rfl) Mσ Oσ (by omega)
  · show V 12 [some (ZR 0), some (ZI end_), none, none, none, none, none] [] 41 σ
    refine zr_iconst (pc := 12) hV (-1) dX12_best_12 rfl ?_
    exact zr_iret (pc := 13) hV dX12_best_13 rfl rfl ⟨_, rfl, ⟨by decide, by decide⟩, hσ, (fun a i _ => rfl), trivial, Mσ, Oσ⟩
