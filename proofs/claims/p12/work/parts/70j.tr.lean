set_option maxHeartbeats 800000 in
theorem c_X12_count2 {σ : zq_S} (hσ : zx_T σ) (what : Int) (q0 : zq_in what) : zq_C zx_w yX12_count cX12_count 2 (some .int) 0 0 41 41 [ZR 0, ZI what] σ (zq_pp σ (fun r => (what = 0 → r = σ 0 3) ∧ (what = 1 → r = zx_p2 (σ 0 1)) ∧ (what = 2 → r = zx_p2 (σ 0 0)) ∧ (what = 3 → r = σ 0 35) ∧ (what = 4 → r = σ 0 29) ∧ (¬ (0 ≤ what ∧ what ≤ 4) → r = -1))) := by
  refine zq_C_of (by decide) (Nat.le_refl _) (Nat.le_of_ble_eq_true rfl) [some (ZR 0), some (ZI what)] rfl (fun V hV => ?_)
  show V 0 [some (ZR 0), some (ZI what)] [] 41 σ
  refine zr_iload_n (pc := 0) hV dX12_count_0 rfl rfl ?_
  refine zr_if_ne (pc := 1) hV 11 dX12_count_1 (by decide) (by omega) (fun c1 => ?_) (fun c1 => ?_)
  · show V 11 [some (ZR 0), some (ZI what)] [] 41 σ
    refine zr_iload_n (pc := 11) hV dX12_count_11 rfl rfl ?_
    refine zr_iconst (pc := 12) hV 1 dX12_count_12 rfl ?_
    refine zr_icmp_ne (pc := 13) hV 25 dX12_count_13 (by decide) (by omega) ⟨by decide, by decide⟩ (fun c2 => ?_) (fun c2 => ?_)
    · show V 25 [some (ZR 0), some (ZI what)] [] 41 σ
      refine zr_iload_n (pc := 25) hV dX12_count_25 rfl rfl ?_
      refine zr_iconst (pc := 26) hV 2 dX12_count_26 rfl ?_
      refine zr_icmp_ne (pc := 27) hV 39 dX12_count_27 (by decide) (by omega) ⟨by decide, by decide⟩ (fun c3 => ?_) (fun c3 => ?_)
      · show V 39 [some (ZR 0), some (ZI what)] [] 41 σ
        refine zr_iload_n (pc := 39) hV dX12_count_39 rfl rfl ?_
        refine zr_iconst (pc := 40) hV 3 dX12_count_40 rfl ?_
        refine zr_icmp_ne (pc := 41) hV 51 dX12_count_41 (by decide) (by omega) ⟨by decide, by decide⟩ (fun c4 => ?_) (fun c4 => ?_)
        · show V 51 [some (ZR 0), some (ZI what)] [] 41 σ
          refine zr_iload_n (pc := 51) hV dX12_count_51 rfl rfl ?_
          refine zr_iconst (pc := 52) hV 4 dX12_count_52 rfl ?_
          refine zr_icmp_ne (pc := 53) hV 63 dX12_count_53 (by decide) (by omega) ⟨by decide, by decide⟩ (fun c5 => ?_) (fun c5 => ?_)
          · show V 63 [some (ZR 0), some (ZI what)] [] 41 σ
            refine zr_iconst (pc := 63) hV (-1) dX12_count_63 rfl ?_
            show V 64 [some (ZR 0), some (ZI what)] [ZI (-1)] 41 σ
            exact zr_iret (pc := 64) hV dX12_count_64 rfl rfl ⟨rfl, _, rfl, ⟨by decide, by decide⟩, (by omega)⟩
          · show V 56 [some (ZR 0), some (ZI what)] [] 41 σ
            refine zr_aload_n (pc := 56) hV dX12_count_56 rfl rfl ?_
            refine zr_getI (pc := 57) hV 29 dX12_count_57 fX12_72 rfl rfl rfl (by decide) ?_
            have t6 := zx_g29 hσ
            refine zr_goto (pc := 60) hV 64 dX12_count_60 (by decide) ?_
            show V 64 [some (ZR 0), some (ZI what)] [ZI (σ 0 29)] 41 σ
            exact zr_iret (pc := 64) hV dX12_count_64 rfl rfl ⟨rfl, _, rfl, (by omega), (by omega)⟩
        · show V 44 [some (ZR 0), some (ZI what)] [] 41 σ
          refine zr_aload_n (pc := 44) hV dX12_count_44 rfl rfl ?_
          refine zr_getI (pc := 45) hV 35 dX12_count_45 fX12_84 rfl rfl rfl (by decide) ?_
          have t7 := zx_g35 hσ
          refine zr_goto (pc := 48) hV 64 dX12_count_48 (by decide) ?_
          show V 64 [some (ZR 0), some (ZI what)] [ZI (σ 0 35)] 41 σ
          exact zr_iret (pc := 64) hV dX12_count_64 rfl rfl ⟨rfl, _, rfl, (by omega), (by omega)⟩
      · show V 30 [some (ZR 0), some (ZI what)] [] 41 σ
        refine zr_iconst (pc := 30) hV 1 dX12_count_30 rfl ?_
        refine zr_aload_n (pc := 31) hV dX12_count_31 rfl rfl ?_
        refine zr_getI (pc := 32) hV 0 dX12_count_32 fX12_7 rfl rfl rfl (by decide) ?_
        have t8 := zx_g0 hσ
        refine zr_ishl (pc := 35) hV dX12_count_35 ?_
        have t9 := zx_shl_one (y := σ 0 0) 8 256 (by decide) (by decide) (by omega)
        refine zr_goto (pc := 36) hV 64 dX12_count_36 (by decide) ?_
        show V 64 [some (ZR 0), some (ZI what)] [ZI (zq_shl 1 (σ 0 0))] 41 σ
        exact zr_iret (pc := 64) hV dX12_count_64 rfl rfl ⟨rfl, _, rfl, (by omega), (by omega)⟩
    · show V 16 [some (ZR 0), some (ZI what)] [] 41 σ
      refine zr_iconst (pc := 16) hV 1 dX12_count_16 rfl ?_
      refine zr_aload_n (pc := 17) hV dX12_count_17 rfl rfl ?_
      refine zr_getI (pc := 18) hV 1 dX12_count_18 fX12_13 rfl rfl rfl (by decide) ?_
      have t10 := zx_g1 hσ
      refine zr_ishl (pc := 21) hV dX12_count_21 ?_
      have t11 := zx_shl_one (y := σ 0 1) 3 8 (by decide) (by decide) (by omega)
      refine zr_goto (pc := 22) hV 64 dX12_count_22 (by decide) ?_
      show V 64 [some (ZR 0), some (ZI what)] [ZI (zq_shl 1 (σ 0 1))] 41 σ
      exact zr_iret (pc := 64) hV dX12_count_64 rfl rfl ⟨rfl, _, rfl, (by omega), (by omega)⟩
  · show V 4 [some (ZR 0), some (ZI what)] [] 41 σ
    refine zr_aload_n (pc := 4) hV dX12_count_4 rfl rfl ?_
    refine zr_getI (pc := 5) hV 3 dX12_count_5 fX12_150 rfl rfl rfl (by decide) ?_
    have t12 := zx_g3 hσ
    refine zr_goto (pc := 8) hV 64 dX12_count_8 (by decide) ?_
    show V 64 [some (ZR 0), some (ZI what)] [ZI (σ 0 3)] 41 σ
    exact zr_iret (pc := 64) hV dX12_count_64 rfl rfl ⟨rfl, _, rfl, (by omega), (by omega)⟩
