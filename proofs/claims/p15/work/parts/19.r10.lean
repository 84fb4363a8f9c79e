set_option maxHeartbeats 800000 in
theorem c_X12_leastMove {σ : zq_S} (hσ : zx_T σ)  : zq_C zx_w yX12_leastMove cX12_leastMove 3 (some .int) 4 94 41 41 [ZR 0] σ (zq_pp σ (fun r => -1 ≤ r ∧ r ≤ 19 ∧ r < σ 0 3 ∧ r = zx_lm σ (σ 0 3))) := by
  refine zq_C_of (by decide) (Nat.le_refl _) (Nat.le_of_ble_eq_true rfl) [some (ZR 0), none, none] rfl (fun V hV => ?_)
  have z0 := zx_lm_0 σ
  have z3 := zx_g3 hσ
  show V 0 [some (ZR 0), none, none] [] 41 σ
  refine zr_iconst (pc := 0) hV (-1) dX12_leastMove_0 rfl ?_
  refine zr_istore_n (pc := 1) hV [some (ZR 0), some (ZI (-1)), none] dX12_leastMove_1 rfl (by decide) rfl rfl ?_
  refine zr_iconst (pc := 2) hV 0 dX12_leastMove_2 rfl ?_
  refine zr_istore_n (pc := 3) hV [some (ZR 0), some (ZI (-1)), some (ZI 0)] dX12_leastMove_3 rfl (by decide) rfl rfl ?_
  have L4 : ∀ (fuel : Nat) (x1_4 : Int) (x2_4 : Int), ((-1) ≤ x1_4 ∧ x1_4 ≤ 19) → (0 ≤ x2_4 ∧ x2_4 ≤ 20) → (x1_4 = zx_lm σ x2_4) → (x1_4 < x2_4) → (x2_4 ≤ σ 0 3) → 20 - x2_4 < (fuel : Int) → V 4 [some (ZR 0), some (ZI x1_4), some (ZI x2_4)] [] 41 σ := by
    intro fuel
    induction fuel with
    | zero =>
      intro x1_4 x2_4 hx1_4 hx2_4 hi4_0 hi4_1 hi4_2 hm4
      exfalso; omega
    | succ fuel ih =>
      intro x1_4 x2_4 hx1_4 hx2_4 hi4_0 hi4_1 hi4_2 hm4
      have ih4 := ih
      show V 4 [some (ZR 0), some (ZI x1_4), some (ZI x2_4)] [] 41 σ
      refine zr_iload_n (pc := 4) hV dX12_leastMove_4 rfl rfl ?_
      refine zr_aload_n (pc := 5) hV dX12_leastMove_5 rfl rfl ?_
      refine zr_getI (pc := 6) hV 3 dX12_leastMove_6 fX12_150 rfl rfl rfl (by decide) ?_
      have t1 := zx_g3 hσ
      refine zr_icmp_ge (pc := 9) hV 52 dX12_leastMove_9 (by decide) (by omega) (by omega) (fun c2 => ?_) (fun c2 => ?_)
      · show V 52 [some (ZR 0), some (ZI x1_4), some (ZI x2_4)] [] 41 σ
        refine zr_iload_n (pc := 52) hV dX12_leastMove_52 rfl rfl ?_
        exact zr_iret (pc := 53) hV dX12_leastMove_53 rfl rfl ⟨rfl, _, rfl, (by omega), ⟨by omega, by omega, by omega, by rw [show σ 0 3 = x2_4 by omega]; exact hi4_0⟩⟩
      · show V 12 [some (ZR 0), some (ZI x1_4), some (ZI x2_4)] [] 41 σ
        have zl := zx_lm_s σ x2_4 (by omega)
        have zc : σ 7 (zx_lm σ x2_4) = σ 7 x1_4 := by rw [← hi4_0]
        refine zr_aload_n (pc := 12) hV dX12_leastMove_12 rfl rfl ?_
        refine zr_iload_n (pc := 13) hV dX12_leastMove_13 rfl rfl ?_
        refine zr_callVp (pc := 14) hV [ZI x2_4] (st := []) (c_X12_formOf (σ := σ) hσ x2_4 (by omega)) dX12_leastMove_14 mX12_428 rfl (by decide) (by decide) (Nat.le_of_ble_eq_true rfl) (Nat.le_refl _) (fun r14 hr14 pr14 => ?_)
        refine zr_iconst (pc := 17) hV 2 dX12_leastMove_17 rfl ?_
        refine zr_icmp_ne (pc := 18) hV 44 dX12_leastMove_18 (by decide) (by omega) ⟨by decide, by decide⟩ (fun c3 => ?_) (fun c3 => ?_)
        · show V 44 [some (ZR 0), some (ZI x1_4), some (ZI x2_4)] [] 41 σ
          refine zr_iload_n (pc := 44) hV dX12_leastMove_44 rfl rfl ?_
          show V 45 [some (ZR 0), some (ZI x1_4), some (ZI x2_4)] [ZI x1_4] 41 σ
          refine zr_istore_n (pc := 45) hV [some (ZR 0), some (ZI x1_4), some (ZI x2_4)] dX12_leastMove_45 rfl (by decide) rfl rfl ?_
          refine zr_iinc (pc := 46) hV [some (ZR 0), some (ZI x1_4), some (ZI (x2_4 + 1))] (x2_4 + 1) dX12_leastMove_46 rfl rfl (by decide) rfl rfl ?_
          refine zr_goto (pc := 49) hV 4 dX12_leastMove_49 (by decide) ?_
          have t4 := zx_g3 hσ
          exact ih4 x1_4 (x2_4 + 1) (by omega) (by omega) (by omega) (by omega) (by omega) (by omega)
        · show V 21 [some (ZR 0), some (ZI x1_4), some (ZI x2_4)] [] 41 σ
          refine zr_iload_n (pc := 21) hV dX12_leastMove_21 rfl rfl ?_
          refine zr_if_lt (pc := 22) hV 40 dX12_leastMove_22 (by decide) (by omega) (fun c5 => ?_) (fun c5 => ?_)
          · show V 40 [some (ZR 0), some (ZI x1_4), some (ZI x2_4)] [] 41 σ
            refine zr_iload_n (pc := 40) hV dX12_leastMove_40 rfl rfl ?_
            refine zr_goto (pc := 41) hV 45 dX12_leastMove_41 (by decide) ?_
            show V 45 [some (ZR 0), some (ZI x1_4), some (ZI x2_4)] [ZI x2_4] 41 σ
            refine zr_istore_n (pc := 45) hV [some (ZR 0), some (ZI x2_4), some (ZI x2_4)] dX12_leastMove_45 rfl (by decide) rfl rfl ?_
            refine zr_iinc (pc := 46) hV [some (ZR 0), some (ZI x2_4), some (ZI (x2_4 + 1))] (x2_4 + 1) dX12_leastMove_46 rfl rfl (by decide) rfl rfl ?_
            refine zr_goto (pc := 49) hV 4 dX12_leastMove_49 (by decide) ?_
            have t6 := zx_g3 hσ
            exact ih4 x2_4 (x2_4 + 1) (by omega) (by omega) (by omega) (by omega) (by omega) (by omega)
          · show V 25 [some (ZR 0), some (ZI x1_4), some (ZI x2_4)] [] 41 σ
            refine zr_aload_n (pc := 25) hV dX12_leastMove_25 rfl rfl ?_
            refine zr_getR (pc := 26) hV 10 7 dX12_leastMove_26 fX12_38 rfl rfl rfl (by decide) (zx_g10 hσ) (by omega) ?_
            refine zr_iload_n (pc := 29) hV dX12_leastMove_29 rfl rfl ?_
            refine zr_iald (pc := 30) hV dX12_leastMove_30 rfl (by decide) rfl (by omega) ?_
            have t7 := zx_ga7 hσ x2_4
            refine zr_aload_n (pc := 31) hV dX12_leastMove_31 rfl rfl ?_
            refine zr_getR (pc := 32) hV 10 7 dX12_leastMove_32 fX12_38 rfl rfl rfl (by decide) (zx_g10 hσ) (by omega) ?_
            refine zr_iload_n (pc := 35) hV dX12_leastMove_35 rfl rfl ?_
            refine zr_iald (pc := 36) hV dX12_leastMove_36 rfl (by decide) rfl (by omega) ?_
            have t8 := zx_ga7 hσ x1_4
            refine zr_icmp_ge (pc := 37) hV 44 dX12_leastMove_37 (by decide) (by omega) (by omega) (fun c9 => ?_) (fun c9 => ?_)
            · show V 44 [some (ZR 0), some (ZI x1_4), some (ZI x2_4)] [] 41 σ
              refine zr_iload_n (pc := 44) hV dX12_leastMove_44 rfl rfl ?_
              show V 45 [some (ZR 0), some (ZI x1_4), some (ZI x2_4)] [ZI x1_4] 41 σ
              refine zr_istore_n (pc := 45) hV [some (ZR 0), some (ZI x1_4), some (ZI x2_4)] dX12_leastMove_45 rfl (by decide) rfl rfl ?_
              refine zr_iinc (pc := 46) hV [some (ZR 0), some (ZI x1_4), some (ZI (x2_4 + 1))] (x2_4 + 1) dX12_leastMove_46 rfl rfl (by decide) rfl rfl ?_
              refine zr_goto (pc := 49) hV 4 dX12_leastMove_49 (by decide) ?_
              have t10 := zx_g3 hσ
              exact ih4 x1_4 (x2_4 + 1) (by omega) (by omega) (by omega) (by omega) (by omega) (by omega)
            · show V 40 [some (ZR 0), some (ZI x1_4), some (ZI x2_4)] [] 41 σ
              refine zr_iload_n (pc := 40) hV dX12_leastMove_40 rfl rfl ?_
              refine zr_goto (pc := 41) hV 45 dX12_leastMove_41 (by decide) ?_
              show V 45 [some (ZR 0), some (ZI x1_4), some (ZI x2_4)] [ZI x2_4] 41 σ
              refine zr_istore_n (pc := 45) hV [some (ZR 0), some (ZI x2_4), some (ZI x2_4)] dX12_leastMove_45 rfl (by decide) rfl rfl ?_
              refine zr_iinc (pc := 46) hV [some (ZR 0), some (ZI x2_4), some (ZI (x2_4 + 1))] (x2_4 + 1) dX12_leastMove_46 rfl rfl (by decide) rfl rfl ?_
              refine zr_goto (pc := 49) hV 4 dX12_leastMove_49 (by decide) ?_
              have t11 := zx_g3 hσ
              exact ih4 x2_4 (x2_4 + 1) (by omega) (by omega) (by omega) (by omega) (by omega) (by omega)
  have t12 := zx_g3 hσ
  exact L4 (20 - (0 : Int) + 1 : Int).toNat (-1) 0 (by omega) (by omega) (by omega) (by omega) (by omega) (by omega)
