set_option maxHeartbeats 800000 in
theorem c_X12_best3 {σ : zq_S} (hσ : zx_T σ) (end_ : Int) (q0 : zq_in end_) (Mσ : zx_M σ) (Oσ : zx_O σ) (Kσ : zx_K σ) (Wσ : zx_W σ) : zq_C zx_w yX12_best cX12_best 7 (some .int) 5 121 41 41 [ZR 0, ZI end_] σ (zq_pi (fun r τ => zx_T τ ∧ (∀ a i : Int, (¬ (a = 0 ∧ i = 30) ∧ ¬ (a = 0 ∧ i = 61) ∧ a ≠ 18) → τ a i = σ a i) ∧ (True) ∧ zq_hid ((¬ (0 ≤ end_ ∧ end_ ≤ 64) → r = -1) ∧ (0 ≤ end_ ∧ end_ ≤ 64 → ∀ R, zk_Rr σ R → r = (zk_all (zk_Pr σ end_) R (σ 0 3) (σ 0 3)).1)) ∧ zx_M τ ∧ zx_O τ ∧ zx_K τ ∧ zx_W τ)) := by
  refine zq_C_of (by decide) (Nat.le_refl _) (Nat.le_of_ble_eq_true rfl) [some (ZR 0), some (ZI end_), none, none, none, none, none] rfl (fun V hV => ?_)
  have z03 := zx_g3 hσ
  show V 0 [some (ZR 0), some (ZI end_), none, none, none, none, none] [] 41 σ
  refine zr_iload_n (pc := 0) hV dX12_best_0 rfl rfl ?_
  refine zr_i2l (pc := 1) hV dX12_best_1 (by omega) ?_
  refine zr_lconst (pc := 2) hV 0 dX12_best_2 (by decide) ?_
  refine zr_ldc2 (pc := 3) (v := 64) hV 64 dX12_best_3 kX12_465 (by decide) ?_
  refine zr_callSp (pc := 6) hV [ZL end_, ZL 0, ZL 64] (st := []) (c_X12_in (σ := σ) end_ 0 64 (by omega) (by omega) (by omega)) dX12_best_6 mX12_170 (by decide) (Nat.le_of_ble_eq_true rfl) (Nat.le_refl _) (fun r6 hr6 pr6 => ?_)
  refine zr_if_ne (pc := 9) hV 14 dX12_best_9 (by decide) (by omega) (fun c1 => ?_) (fun c1 => ?_)
  · show V 14 [some (ZR 0), some (ZI end_), none, none, none, none, none] [] 41 σ
    refine zr_bipush (pc := 14) hV (-4) dX12_best_14 (by decide) ?_
    refine zr_istore_n (pc := 16) hV [some (ZR 0), some (ZI end_), some (ZI (-4)), none, none, none, none] dX12_best_16 rfl (by decide) rfl rfl ?_
    refine zr_iconst (pc := 17) hV 0 dX12_best_17 rfl ?_
    refine zr_istore_n (pc := 18) hV [some (ZR 0), some (ZI end_), some (ZI (-4)), some (ZI 0), none, none, none] dX12_best_18 rfl (by decide) rfl rfl ?_
    refine zr_iconst (pc := 19) hV 0 dX12_best_19 rfl ?_
    refine zr_istore (pc := 20) hV [some (ZR 0), some (ZI end_), some (ZI (-4)), some (ZI 0), some (ZI 0), none, none] dX12_best_20 (by decide) rfl rfl ?_
    have L22 : ∀ (fuel : Nat) (x2_22 : Int) (x3_22 : Int) (x4_22 : Int) (σ_22 : zq_S), ((-4) ≤ x2_22 ∧ x2_22 ≤ 399) → (0 ≤ x3_22 ∧ x3_22 ≤ 64) → (0 ≤ x4_22 ∧ x4_22 ≤ 20) → (zx_T σ_22) → (∀ a i : Int, (¬ (a = 0 ∧ i = 30) ∧ ¬ (a = 0 ∧ i = 61) ∧ a ≠ 18) → σ_22 a i = σ a i) → (zx_M σ_22) → (zx_O σ_22) → (zx_K σ_22) → (zx_W σ_22) → (zq_hid (∀ R, zk_Rr σ R → (x2_22, x3_22) = zk_all (zk_Pr σ end_) R (σ 0 3) x4_22)) → (x4_22 ≤ σ 0 3) → 20 - x4_22 < (fuel : Int) → V 22 [some (ZR 0), some (ZI end_), some (ZI x2_22), some (ZI x3_22), some (ZI x4_22), none, none] [] 41 σ_22 := by
      intro fuel
      induction fuel with
      | zero =>
        intro x2_22 x3_22 x4_22 σ_22 hx2_22 hx3_22 hx4_22 hσ_22 hFσ_22 Mσ_22 Oσ_22 Kσ_22 Wσ_22 hi22_0 hi22_1 hm22
        exfalso; omega
      | succ fuel ih =>
        intro x2_22 x3_22 x4_22 σ_22 hx2_22 hx3_22 hx4_22 hσ_22 hFσ_22 Mσ_22 Oσ_22 Kσ_22 Wσ_22 hi22_0 hi22_1 hm22
        have ih22 := ih
        show V 22 [some (ZR 0), some (ZI end_), some (ZI x2_22), some (ZI x3_22), some (ZI x4_22), none, none] [] 41 σ_22
        refine zr_iload (pc := 22) hV dX12_best_22 rfl ?_
        refine zr_aload_n (pc := 24) hV dX12_best_24 rfl rfl ?_
        refine zr_getI (pc := 25) hV 3 dX12_best_25 fX12_150 rfl rfl rfl (by decide) ?_
        have t2 := zx_g3 hσ_22
        have t3 : σ_22 0 3 = σ 0 3 := hFσ_22 _ _ (by omega)
        refine zr_icmp_ge (pc := 28) hV 95 dX12_best_28 (by decide) (by omega) (by omega) (fun c4 => ?_) (fun c4 => ?_)
        · show V 95 [some (ZR 0), some (ZI end_), some (ZI x2_22), some (ZI x3_22), some (ZI x4_22), none, none] [] 41 σ_22
          refine zr_iload_n (pc := 95) hV dX12_best_95 rfl rfl ?_
          exact zr_iret (pc := 96) hV dX12_best_96 rfl rfl ⟨_, rfl, (by omega), hσ_22, hFσ_22, trivial, (show (¬ (0 ≤ end_ ∧ end_ ≤ 64) → x2_22 = -1) ∧ (0 ≤ end_ ∧ end_ ≤ 64 → ∀ R, zk_Rr σ R → x2_22 = (zk_all (zk_Pr σ end_) R (σ 0 3) (σ 0 3)).1) from ⟨fun h => absurd (by omega) h, fun _ R hR => (by have z := hi22_0 R hR; rw [show x4_22 = σ 0 3 by omega] at z; rw [← z])⟩), Mσ_22, Oσ_22, Kσ_22, Wσ_22⟩
        · show V 31 [some (ZR 0), some (ZI end_), some (ZI x2_22), some (ZI x3_22), some (ZI x4_22), none, none] [] 41 σ_22
          refine zr_iconst (pc := 31) hV 0 dX12_best_31 rfl ?_
          refine zr_istore (pc := 32) hV [some (ZR 0), some (ZI end_), some (ZI x2_22), some (ZI x3_22), some (ZI x4_22), some (ZI 0), none] dX12_best_32 (by decide) rfl rfl ?_
          have L34 : ∀ (fuel : Nat) (x2_34 : Int) (x3_34 : Int) (x5_34 : Int) (σ_34 : zq_S), ((-4) ≤ x2_34 ∧ x2_34 ≤ 399) → (0 ≤ x3_34 ∧ x3_34 ≤ 64) → (0 ≤ x5_34 ∧ x5_34 ≤ 20) → (zx_T σ_34) → (∀ a i : Int, (¬ (a = 0 ∧ i = 30) ∧ ¬ (a = 0 ∧ i = 61) ∧ a ≠ 18) → σ_34 a i = σ a i) → (zx_M σ_34) → (zx_O σ_34) → (zx_K σ_34) → (zx_W σ_34) → (zq_hid (∀ R, zk_Rr σ R → (x2_34, x3_34) = zk_rw (zk_Pr σ end_) R x4_22 (zk_all (zk_Pr σ end_) R (σ 0 3) x4_22) x5_34)) → (x5_34 ≤ σ 0 3) → 20 - x5_34 < (fuel : Int) → V 34 [some (ZR 0), some (ZI end_), some (ZI x2_34), some (ZI x3_34), some (ZI x4_22), some (ZI x5_34), none] [] 41 σ_34 := by
            intro fuel
            induction fuel with
            | zero =>
              intro x2_34 x3_34 x5_34 σ_34 hx2_34 hx3_34 hx5_34 hσ_34 hFσ_34 Mσ_34 Oσ_34 Kσ_34 Wσ_34 hi34_0 hi34_1 hm34
              exfalso; omega
            | succ fuel ih =>
              intro x2_34 x3_34 x5_34 σ_34 hx2_34 hx3_34 hx5_34 hσ_34 hFσ_34 Mσ_34 Oσ_34 Kσ_34 Wσ_34 hi34_0 hi34_1 hm34
              have ih34 := ih
              show V 34 [some (ZR 0), some (ZI end_), some (ZI x2_34), some (ZI x3_34), some (ZI x4_22), some (ZI x5_34), none] [] 41 σ_34
              refine zr_iload (pc := 34) hV dX12_best_34 rfl ?_
              refine zr_aload_n (pc := 36) hV dX12_best_36 rfl rfl ?_
              refine zr_getI (pc := 37) hV 3 dX12_best_37 fX12_150 rfl rfl rfl (by decide) ?_
              have t5 := zx_g3 hσ_34
              have t6 : σ_34 0 3 = σ 0 3 := hFσ_34 _ _ (by omega)
              refine zr_icmp_ge (pc := 40) hV 89 dX12_best_40 (by decide) (by omega) (by omega) (fun c7 => ?_) (fun c7 => ?_)
              · show V 89 [some (ZR 0), some (ZI end_), some (ZI x2_34), some (ZI x3_34), some (ZI x4_22), some (ZI x5_34), none] [] 41 σ_34
                refine zr_iinc (pc := 89) hV [some (ZR 0), some (ZI end_), some (ZI x2_34), some (ZI x3_34), some (ZI (x4_22 + 1)), some (ZI x5_34), none] (x4_22 + 1) dX12_best_89 rfl rfl (by decide) rfl rfl ?_
                refine zr_goto (pc := 92) hV 22 dX12_best_92 (by decide) ?_
                refine zr_sub (pc := 22) hV [some (ZR 0), some (ZI end_), some (ZI x2_34), some (ZI x3_34), some (ZI (x4_22 + 1)), none, none] (⟨rfl, rfl, rfl, rfl, rfl, trivial⟩) ?_
                exact ih22 x2_34 x3_34 (x4_22 + 1) σ_34 (by omega) (by omega) (by omega) hσ_34 hFσ_34 Mσ_34 Oσ_34 Kσ_34 Wσ_34 (fun R hR => by have z := hi34_0 R hR; rw [show x5_34 = σ 0 3 by omega] at z; rw [zk_all_s (by omega)]; exact z) (by omega) (by omega)
              · show V 43 [some (ZR 0), some (ZI end_), some (ZI x2_34), some (ZI x3_34), some (ZI x4_22), some (ZI x5_34), none] [] 41 σ_34
                refine zr_aload_n (pc := 43) hV dX12_best_43 rfl rfl ?_
                refine zr_iload (pc := 44) hV dX12_best_44 rfl ?_
                refine zr_iload (pc := 46) hV dX12_best_46 rfl ?_
                refine zr_iload_n (pc := 48) hV dX12_best_48 rfl rfl ?_
                have t8 := zx_g3 hσ_34
                have t9 : σ_34 0 3 = σ 0 3 := hFσ_34 _ _ (by omega)
                have t10 := zx_g3 hσ_34
                have t11 : σ_34 0 3 = σ 0 3 := hFσ_34 _ _ (by omega)
                refine zr_callVi (pc := 49) hV [ZI x4_22, ZI x5_34, ZI end_] (st := []) (c_X12_pairsOf3 (σ := σ_34) hσ_34 x4_22 x5_34 end_ (by omega) (by omega) (by omega) Mσ_34 Oσ_34 Kσ_34 Wσ_34) dX12_best_49 mX12_467 rfl (by decide) (by decide) (Nat.le_of_ble_eq_true rfl) (Nat.le_refl _) (fun r49 σ49 hr49 pσ49 => ?_)
                obtain ⟨hσ49, hfσ49, pσ49, wσ49, Mσ49, Oσ49, Kσ49, Wσ49⟩ := pσ49
                have hFσ49 : ∀ a i : Int, (¬ (a = 0 ∧ i = 30) ∧ ¬ (a = 0 ∧ i = 61) ∧ a ≠ 18) → σ49 a i = σ a i := fun a i h => (hfσ49 a i ⟨h.1, h.2.2⟩).trans (hFσ_34 a i h)
                have p49 : r49 = zk_Pr σ end_ x4_22 x5_34 := by have w : r49 = zk_P (fun x => zk_b (zk_r σ_34 x4_22 x5_34 x)) end_ 0 := wσ49; rw [w]; exact zk_Pr_fr (fun i => hFσ_34 2 i (by omega)) (fun i => hFσ_34 14 i (by omega)) (hFσ_34 0 2 (by omega)) (hFσ_34 0 3 (by omega))
                refine zr_istore (pc := 52) hV [some (ZR 0), some (ZI end_), some (ZI x2_34), some (ZI x3_34), some (ZI x4_22), some (ZI x5_34), some (ZI r49)] dX12_best_52 (by decide) rfl rfl ?_
                refine zr_iload (pc := 54) hV dX12_best_54 rfl ?_
                refine zr_iload_n (pc := 56) hV dX12_best_56 rfl rfl ?_
                refine zr_icmp_le (pc := 57) hV 83 dX12_best_57 (by decide) (by omega) (by omega) (fun c12 => ?_) (fun c12 => ?_)
                · show V 83 [some (ZR 0), some (ZI end_), some (ZI x2_34), some (ZI x3_34), some (ZI x4_22), some (ZI x5_34), some (ZI r49)] [] 41 σ49
                  refine zr_iinc (pc := 83) hV [some (ZR 0), some (ZI end_), some (ZI x2_34), some (ZI x3_34), some (ZI x4_22), some (ZI (x5_34 + 1)), some (ZI r49)] (x5_34 + 1) dX12_best_83 rfl rfl (by decide) rfl rfl ?_
                  refine zr_goto (pc := 86) hV 34 dX12_best_86 (by decide) ?_
                  refine zr_sub (pc := 34) hV [some (ZR 0), some (ZI end_), some (ZI x2_34), some (ZI x3_34), some (ZI x4_22), some (ZI (x5_34 + 1)), none] (⟨rfl, rfl, rfl, rfl, rfl, rfl, trivial⟩) ?_
                  exact ih34 x2_34 x3_34 (x5_34 + 1) σ49 (by omega) (by omega) (by omega) hσ49 hFσ49 Mσ49 Oσ49 Kσ49 Wσ49 (fun R hR => by have z := hi34_0 R hR; have y2 : (zk_rw (zk_Pr σ end_) R x4_22 (zk_all (zk_Pr σ end_) R (σ 0 3) x4_22) x5_34).2 = x3_34 := (by rw [← z]); rw [zk_rw_s (by omega), zk_st_n (fun q => by rw [y2, ← p49] at q; have q1 := q.1; first | omega | exact absurd ((hR x4_22 x5_34 r65 (by omega) (by omega) (by omega) (by omega) rr65).mp q.2) (by omega))]; exact z) (by omega) (by omega)
                · show V 60 [some (ZR 0), some (ZI end_), some (ZI x2_34), some (ZI x3_34), some (ZI x4_22), some (ZI x5_34), some (ZI r49)] [] 41 σ49
                  refine zr_aload_n (pc := 60) hV dX12_best_60 rfl rfl ?_
                  refine zr_iload (pc := 61) hV dX12_best_61 rfl ?_
                  refine zr_iload (pc := 63) hV dX12_best_63 rfl ?_
                  have t13 := zx_g3 hσ49
                  have t14 : σ49 0 3 = σ_34 0 3 := hfσ49 _ _ (by omega)
                  have t15 : σ_34 0 3 = σ 0 3 := hFσ_34 _ _ (by omega)
                  have t16 := zx_g3 hσ49
                  have t17 : σ49 0 3 = σ_34 0 3 := hfσ49 _ _ (by omega)
                  have t18 : σ_34 0 3 = σ 0 3 := hFσ_34 _ _ (by omega)
                  refine zr_callVi (pc := 65) hV [ZI x4_22, ZI x5_34] (st := []) (c_X12_roomFor3 (σ := σ49) hσ49 x4_22 x5_34 (by omega) (by omega) Mσ49 Oσ49 Wσ49) dX12_best_65 mX12_473 rfl (by decide) (by decide) (Nat.le_of_ble_eq_true rfl) (Nat.le_refl _) (fun r65 σ65 hr65 pσ65 => ?_)
                  obtain ⟨hσ65, hfσ65, pσ65, wσ65, Mσ65, Oσ65, Wσ65⟩ := pσ65
                  have Kσ65 : zx_K σ65 := zx_K_fr (fun i => hfσ65 14 i (by omega)) (hfσ65 0 2 (by omega)) Kσ49
                  have hFσ65 : ∀ a i : Int, (¬ (a = 0 ∧ i = 30) ∧ ¬ (a = 0 ∧ i = 61) ∧ a ≠ 18) → σ65 a i = σ a i := fun a i h => (hfσ65 a i ⟨h.1, h.2.1, h.2.2⟩).trans (hFσ49 a i h)
                  have t19 := zx_g1 hσ49
                  have t20 : σ49 0 1 = σ_34 0 1 := hfσ49 _ _ (by omega)
                  have t21 : σ_34 0 1 = σ 0 1 := hFσ_34 _ _ (by omega)
                  have t22 := zx_g2 hσ49
                  have t23 : σ49 0 2 = σ_34 0 2 := hfσ49 _ _ (by omega)
                  have t24 : σ_34 0 2 = σ 0 2 := hFσ_34 _ _ (by omega)
                  have rr65 : zt_rr σ x4_22 x5_34 r65 := zt_rr_fr (fun i => hFσ49 2 i (by omega)) (fun i => hFσ49 3 i (by omega)) (fun i => hFσ49 5 i (by omega)) (fun i => hFσ49 6 i (by omega)) (fun i => hFσ49 7 i (by omega)) (hFσ49 0 1 (by omega)) (hFσ49 0 2 (by omega)) (hFσ49 0 3 (by omega)) (show zt_rr σ49 x4_22 x5_34 r65 from wσ65.1)
                  refine zr_if_lt (pc := 68) hV 83 dX12_best_68 (by decide) (by omega) (fun c25 => ?_) (fun c25 => ?_)
                  · show V 83 [some (ZR 0), some (ZI end_), some (ZI x2_34), some (ZI x3_34), some (ZI x4_22), some (ZI x5_34), some (ZI r49)] [] 41 σ65
                    refine zr_iinc (pc := 83) hV [some (ZR 0), some (ZI end_), some (ZI x2_34), some (ZI x3_34), some (ZI x4_22), some (ZI (x5_34 + 1)), some (ZI r49)] (x5_34 + 1) dX12_best_83 rfl rfl (by decide) rfl rfl ?_
                    refine zr_goto (pc := 86) hV 34 dX12_best_86 (by decide) ?_
                    refine zr_sub (pc := 34) hV [some (ZR 0), some (ZI end_), some (ZI x2_34), some (ZI x3_34), some (ZI x4_22), some (ZI (x5_34 + 1)), none] (⟨rfl, rfl, rfl, rfl, rfl, rfl, trivial⟩) ?_
                    exact ih34 x2_34 x3_34 (x5_34 + 1) σ65 (by omega) (by omega) (by omega) hσ65 hFσ65 Mσ65 Oσ65 Kσ65 Wσ65 (fun R hR => by have z := hi34_0 R hR; have y2 : (zk_rw (zk_Pr σ end_) R x4_22 (zk_all (zk_Pr σ end_) R (σ 0 3) x4_22) x5_34).2 = x3_34 := (by rw [← z]); rw [zk_rw_s (by omega), zk_st_n (fun q => by rw [y2, ← p49] at q; have q1 := q.1; first | omega | exact absurd ((hR x4_22 x5_34 r65 (by omega) (by omega) (by omega) (by omega) rr65).mp q.2) (by omega))]; exact z) (by omega) (by omega)
                  · show V 71 [some (ZR 0), some (ZI end_), some (ZI x2_34), some (ZI x3_34), some (ZI x4_22), some (ZI x5_34), some (ZI r49)] [] 41 σ65
                    refine zr_iload (pc := 71) hV dX12_best_71 rfl ?_
                    refine zr_istore_n (pc := 73) hV [some (ZR 0), some (ZI end_), some (ZI x2_34), some (ZI r49), some (ZI x4_22), some (ZI x5_34), some (ZI r49)] dX12_best_73 rfl (by decide) rfl rfl ?_
                    refine zr_bipush (pc := 74) hV 20 dX12_best_74 (by decide) ?_
                    refine zr_iload (pc := 76) hV dX12_best_76 rfl ?_
                    refine zr_imul (pc := 78) hV dX12_best_78 ?_
                    refine zr_iload (pc := 79) hV dX12_best_79 rfl ?_
                    refine zr_iadd (pc := 81) hV dX12_best_81 ?_
                    refine zr_istore_n (pc := 82) hV [some (ZR 0), some (ZI end_), some (ZI ((20 * x4_22) + x5_34)), some (ZI r49), some (ZI x4_22), some (ZI x5_34), some (ZI r49)] dX12_best_82 rfl (by decide) rfl rfl ?_
                    show V 83 [some (ZR 0), some (ZI end_), some (ZI ((20 * x4_22) + x5_34)), some (ZI r49), some (ZI x4_22), some (ZI x5_34), some (ZI r49)] [] 41 σ65
                    refine zr_iinc (pc := 83) hV [some (ZR 0), some (ZI end_), some (ZI ((20 * x4_22) + x5_34)), some (ZI r49), some (ZI x4_22), some (ZI (x5_34 + 1)), some (ZI r49)] (x5_34 + 1) dX12_best_83 rfl rfl (by decide) rfl rfl ?_
                    refine zr_goto (pc := 86) hV 34 dX12_best_86 (by decide) ?_
                    refine zr_sub (pc := 34) hV [some (ZR 0), some (ZI end_), some (ZI ((20 * x4_22) + x5_34)), some (ZI r49), some (ZI x4_22), some (ZI (x5_34 + 1)), none] (⟨rfl, rfl, rfl, rfl, rfl, rfl, trivial⟩) ?_
                    exact ih34 ((20 * x4_22) + x5_34) r49 (x5_34 + 1) σ65 (by omega) (by omega) (by omega) hσ65 hFσ65 Mσ65 Oσ65 Kσ65 Wσ65 (fun R hR => by have z := hi34_0 R hR; have y2 : (zk_rw (zk_Pr σ end_) R x4_22 (zk_all (zk_Pr σ end_) R (σ 0 3) x4_22) x5_34).2 = x3_34 := (by rw [← z]); rw [zk_rw_s (by omega), zk_st_y ⟨by rw [y2, ← p49]; omega, (hR x4_22 x5_34 r65 (by omega) (by omega) (by omega) (by omega) rr65).mpr (by omega)⟩, ← p49]) (by omega) (by omega)
          exact L34 (20 - (0 : Int) + 1 : Int).toNat x2_22 x3_22 0 σ_22 (by omega) (by omega) (by omega) hσ_22 hFσ_22 Mσ_22 Oσ_22 Kσ_22 Wσ_22 (fun R hR => hi22_0 R hR) (by omega) (by omega)
    exact L22 (20 - (0 : Int) + 1 : Int).toNat (-4) 0 0 σ (by omega) (by omega) (by omega) hσ (fun a i _ => rfl) Mσ Oσ Kσ Wσ (fun R _ => rfl) (by omega) (by omega)
  · show V 12 [some (ZR 0), some (ZI end_), none, none, none, none, none] [] 41 σ
    refine zr_iconst (pc := 12) hV (-1) dX12_best_12 rfl ?_
    exact zr_iret (pc := 13) hV dX12_best_13 rfl rfl ⟨_, rfl, ⟨by decide, by decide⟩, hσ, (fun a i _ => rfl), trivial, (show (¬ (0 ≤ end_ ∧ end_ ≤ 64) → ((-1) : Int) = -1) ∧ (0 ≤ end_ ∧ end_ ≤ 64 → ∀ R, zk_Rr σ R → ((-1) : Int) = (zk_all (zk_Pr σ end_) R (σ 0 3) (σ 0 3)).1) from ⟨fun _ => rfl, fun h => absurd h (by omega)⟩), Mσ, Oσ, Kσ, Wσ⟩
