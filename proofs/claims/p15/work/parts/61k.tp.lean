set_option maxHeartbeats 800000 in
theorem c_X12_nameBit2 {σ : zq_S} (what : Int) (q0 : 0 ≤ what ∧ what ≤ 10) : zq_C zx_w yX12_nameBit cX12_nameBit 1 (some .int) 0 0 41 41 [ZI what] σ (zq_pp σ (fun r => 0 ≤ r ∧ r ≤ 127 ∧ (zt_p4 r = 1 ↔ what = 5))) := by
  refine zq_C_of (by decide) (Nat.le_refl _) (Nat.le_of_ble_eq_true rfl) [some (ZI what)] rfl (fun V hV => ?_)
  show V 0 [some (ZI what)] [] 41 σ
  refine zr_iload_n (pc := 0) hV dX12_nameBit_0 rfl rfl ?_
  refine zr_iconst (pc := 1) hV 3 dX12_nameBit_1 rfl ?_
  refine zr_icmp_ge (pc := 2) hV 9 dX12_nameBit_2 (by decide) (by omega) ⟨by decide, by decide⟩ (fun c1 => ?_) (fun c1 => ?_)
  · show V 9 [some (ZI what)] [] 41 σ
    refine zr_iload_n (pc := 9) hV dX12_nameBit_9 rfl rfl ?_
    refine zr_iconst (pc := 10) hV 3 dX12_nameBit_10 rfl ?_
    refine zr_icmp_ne (pc := 11) hV 17 dX12_nameBit_11 (by decide) (by omega) ⟨by decide, by decide⟩ (fun c2 => ?_) (fun c2 => ?_)
    · show V 17 [some (ZI what)] [] 41 σ
      refine zr_iload_n (pc := 17) hV dX12_nameBit_17 rfl rfl ?_
      refine zr_iconst (pc := 18) hV 4 dX12_nameBit_18 rfl ?_
      refine zr_icmp_eq (pc := 19) hV 27 dX12_nameBit_19 (by decide) (by omega) ⟨by decide, by decide⟩ (fun c3 => ?_) (fun c3 => ?_)
      · show V 27 [some (ZI what)] [] 41 σ
        refine zr_iload_n (pc := 27) hV dX12_nameBit_27 rfl rfl ?_
        refine zr_iconst (pc := 28) hV 4 dX12_nameBit_28 rfl ?_
        refine zr_icmp_ne (pc := 29) hV 37 dX12_nameBit_29 (by decide) (by omega) ⟨by decide, by decide⟩ (fun c4 => ?_) (fun c4 => ?_)
        · exfalso; omega
        · show V 32 [some (ZI what)] [] 41 σ
          refine zr_bipush (pc := 32) hV 8 dX12_nameBit_32 (by decide) ?_
          refine zr_goto (pc := 34) hV 39 dX12_nameBit_34 (by decide) ?_
          show V 39 [some (ZI what)] [ZI 8] 41 σ
          exact zr_iret (pc := 39) hV dX12_nameBit_39 rfl rfl ⟨rfl, _, rfl, ⟨by decide, by decide⟩, (by have h : what = 0 ∨ what = 1 ∨ what = 2 ∨ what = 3 ∨ what = 4 ∨ what = 5 ∨ what = 6 ∨ what = 7 ∨ what = 8 ∨ what = 9 ∨ what = 10 := (by omega); rcases h with rfl | rfl | rfl | rfl | rfl | rfl | rfl | rfl | rfl | rfl | rfl; all_goals first | (exfalso; omega) | decide)⟩
      · show V 22 [some (ZI what)] [] 41 σ
        refine zr_iload_n (pc := 22) hV dX12_nameBit_22 rfl rfl ?_
        refine zr_iconst (pc := 23) hV 5 dX12_nameBit_23 rfl ?_
        refine zr_icmp_ne (pc := 24) hV 40 dX12_nameBit_24 (by decide) (by omega) ⟨by decide, by decide⟩ (fun c5 => ?_) (fun c5 => ?_)
        · show V 40 [some (ZI what)] [] 41 σ
          refine zr_iload_n (pc := 40) hV dX12_nameBit_40 rfl rfl ?_
          refine zr_bipush (pc := 41) hV 10 dX12_nameBit_41 (by decide) ?_
          refine zr_icmp_ne (pc := 43) hV 50 dX12_nameBit_43 (by decide) (by omega) ⟨by decide, by decide⟩ (fun c6 => ?_) (fun c6 => ?_)
          · show V 50 [some (ZI what)] [] 41 σ
            refine zr_bipush (pc := 50) hV 32 dX12_nameBit_50 (by decide) ?_
            refine zr_iload_n (pc := 52) hV dX12_nameBit_52 rfl rfl ?_
            refine zr_bipush (pc := 53) hV 9 dX12_nameBit_53 (by decide) ?_
            refine zr_icmp_ne (pc := 55) hV 63 dX12_nameBit_55 (by decide) (by omega) ⟨by decide, by decide⟩ (fun c7 => ?_) (fun c7 => ?_)
            · show V 63 [some (ZI what)] [ZI 32] 41 σ
              refine zr_iconst (pc := 63) hV 1 dX12_nameBit_63 rfl ?_
              refine zr_iload_n (pc := 64) hV dX12_nameBit_64 rfl rfl ?_
              refine zr_bipush (pc := 65) hV 6 dX12_nameBit_65 (by decide) ?_
              refine zr_isub (pc := 67) hV dX12_nameBit_67 ?_
              refine zr_ishl (pc := 68) hV dX12_nameBit_68 ?_
              have t8 := zx_shl_one (y := what - 6) 2 4 (by decide) (by decide) (by omega)
              show V 69 [some (ZI what)] [ZI (zq_shl 1 (what - 6)), ZI 32] 41 σ
              refine zr_ior (pc := 69) hV dX12_nameBit_69 ?_
              have t9 := zq_or_b (x := 32) (y := zq_shl 1 (what - 6)) 6 64 (by decide) (by decide) (by omega) (by omega)
              show V 70 [some (ZI what)] [ZI (zq_or 32 (zq_shl 1 (what - 6)))] 41 σ
              exact zr_iret (pc := 70) hV dX12_nameBit_70 rfl rfl ⟨rfl, _, rfl, (by omega), (by have h : what = 0 ∨ what = 1 ∨ what = 2 ∨ what = 3 ∨ what = 4 ∨ what = 5 ∨ what = 6 ∨ what = 7 ∨ what = 8 ∨ what = 9 ∨ what = 10 := (by omega); rcases h with rfl | rfl | rfl | rfl | rfl | rfl | rfl | rfl | rfl | rfl | rfl; all_goals first | (exfalso; omega) | decide)⟩
            · show V 58 [some (ZI what)] [ZI 32] 41 σ
              refine zr_bipush (pc := 58) hV 64 dX12_nameBit_58 (by decide) ?_
              refine zr_goto (pc := 60) hV 69 dX12_nameBit_60 (by decide) ?_
              show V 69 [some (ZI what)] [ZI 64, ZI 32] 41 σ
              refine zr_ior (pc := 69) hV dX12_nameBit_69 ?_
              have t10 := zq_or_b (x := 32) (y := 64) 7 128 (by decide) (by decide) (by omega) (by omega)
              show V 70 [some (ZI what)] [ZI (zq_or 32 64)] 41 σ
              exact zr_iret (pc := 70) hV dX12_nameBit_70 rfl rfl ⟨rfl, _, rfl, (by omega), (by have h : what = 0 ∨ what = 1 ∨ what = 2 ∨ what = 3 ∨ what = 4 ∨ what = 5 ∨ what = 6 ∨ what = 7 ∨ what = 8 ∨ what = 9 ∨ what = 10 := (by omega); rcases h with rfl | rfl | rfl | rfl | rfl | rfl | rfl | rfl | rfl | rfl | rfl; all_goals first | (exfalso; omega) | decide)⟩
          · show V 46 [some (ZI what)] [] 41 σ
            refine zr_iconst (pc := 46) hV 0 dX12_nameBit_46 rfl ?_
            refine zr_goto (pc := 47) hV 70 dX12_nameBit_47 (by decide) ?_
            show V 70 [some (ZI what)] [ZI 0] 41 σ
            exact zr_iret (pc := 70) hV dX12_nameBit_70 rfl rfl ⟨rfl, _, rfl, ⟨by decide, by decide⟩, (by have h : what = 0 ∨ what = 1 ∨ what = 2 ∨ what = 3 ∨ what = 4 ∨ what = 5 ∨ what = 6 ∨ what = 7 ∨ what = 8 ∨ what = 9 ∨ what = 10 := (by omega); rcases h with rfl | rfl | rfl | rfl | rfl | rfl | rfl | rfl | rfl | rfl | rfl; all_goals first | (exfalso; omega) | decide)⟩
        · show V 27 [some (ZI what)] [] 41 σ
          refine zr_iload_n (pc := 27) hV dX12_nameBit_27 rfl rfl ?_
          refine zr_iconst (pc := 28) hV 4 dX12_nameBit_28 rfl ?_
          refine zr_icmp_ne (pc := 29) hV 37 dX12_nameBit_29 (by decide) (by omega) ⟨by decide, by decide⟩ (fun c11 => ?_) (fun c11 => ?_)
          · show V 37 [some (ZI what)] [] 41 σ
            refine zr_bipush (pc := 37) hV 16 dX12_nameBit_37 (by decide) ?_
            show V 39 [some (ZI what)] [ZI 16] 41 σ
            exact zr_iret (pc := 39) hV dX12_nameBit_39 rfl rfl ⟨rfl, _, rfl, ⟨by decide, by decide⟩, (by have h : what = 0 ∨ what = 1 ∨ what = 2 ∨ what = 3 ∨ what = 4 ∨ what = 5 ∨ what = 6 ∨ what = 7 ∨ what = 8 ∨ what = 9 ∨ what = 10 := (by omega); rcases h with rfl | rfl | rfl | rfl | rfl | rfl | rfl | rfl | rfl | rfl | rfl; all_goals first | (exfalso; omega) | decide)⟩
          · exfalso; omega
    · show V 14 [some (ZI what)] [] 41 σ
      refine zr_bipush (pc := 14) hV 64 dX12_nameBit_14 (by decide) ?_
      exact zr_iret (pc := 16) hV dX12_nameBit_16 rfl rfl ⟨rfl, _, rfl, ⟨by decide, by decide⟩, (by have h : what = 0 ∨ what = 1 ∨ what = 2 ∨ what = 3 ∨ what = 4 ∨ what = 5 ∨ what = 6 ∨ what = 7 ∨ what = 8 ∨ what = 9 ∨ what = 10 := (by omega); rcases h with rfl | rfl | rfl | rfl | rfl | rfl | rfl | rfl | rfl | rfl | rfl; all_goals first | (exfalso; omega) | decide)⟩
  · show V 5 [some (ZI what)] [] 41 σ
    refine zr_iconst (pc := 5) hV 1 dX12_nameBit_5 rfl ?_
    refine zr_iload_n (pc := 6) hV dX12_nameBit_6 rfl rfl ?_
    refine zr_ishl (pc := 7) hV dX12_nameBit_7 ?_
    have t12 := zx_shl_one (y := what) 2 4 (by decide) (by decide) (by omega)
    exact zr_iret (pc := 8) hV dX12_nameBit_8 rfl rfl ⟨rfl, _, rfl, (by omega), (by have h : what = 0 ∨ what = 1 ∨ what = 2 ∨ what = 3 ∨ what = 4 ∨ what = 5 ∨ what = 6 ∨ what = 7 ∨ what = 8 ∨ what = 9 ∨ what = 10 := (by omega); rcases h with rfl | rfl | rfl | rfl | rfl | rfl | rfl | rfl | rfl | rfl | rfl; all_goals first | (exfalso; omega) | decide)⟩
set_option maxHeartbeats 800000 in
theorem c_X12_namesOf2 {σ : zq_S} (hσ : zx_T σ) (o : Int) (q0 : 0 ≤ o ∧ o ≤ 20) (q1 : zx_A σ o) : zq_C zx_w yX12_namesOf cX12_namesOf 5 (some .int) 1 20 41 41 [ZR 0, ZI o] σ (zq_pp σ (fun r => (0 ≤ r ∧ r ≤ 127) ∧ zq_hid (zt_p4 r = 1 ↔ zt_pn σ o (σ 5 o)))) := by
  refine zq_C_of (by decide) (Nat.le_refl _) (Nat.le_of_ble_eq_true rfl) [some (ZR 0), some (ZI o), none, none, none] rfl (fun V hV => ?_)
  have g4 := zx_ga4 hσ o
  have g5 := zx_ga5 hσ o
  show V 0 [some (ZR 0), some (ZI o), none, none, none] [] 41 σ
  refine zr_aload_n (pc := 0) hV dX12_namesOf_0 rfl rfl ?_
  refine zr_getR (pc := 1) hV 6 3 dX12_namesOf_1 fX12_26 rfl rfl rfl (by decide) (zx_g6 hσ) (by omega) ?_
  refine zr_iload_n (pc := 4) hV dX12_namesOf_4 rfl rfl ?_
  refine zr_iald (pc := 5) hV dX12_namesOf_5 rfl (by decide) rfl (by omega) ?_
  have t1 := zx_ga3 hσ o
  refine zr_if_le (pc := 6) hV 35 dX12_namesOf_6 (by decide) (by omega) (fun c2 => ?_) (fun c2 => ?_)
  · show V 35 [some (ZR 0), some (ZI o), none, none, none] [] 41 σ
    refine zr_iconst (pc := 35) hV 0 dX12_namesOf_35 rfl ?_
    show V 36 [some (ZR 0), some (ZI o), none, none, none] [ZI 0] 41 σ
    refine zr_istore_n (pc := 36) hV [some (ZR 0), some (ZI o), some (ZI 0), none, none] dX12_namesOf_36 rfl (by decide) rfl rfl ?_
    refine zr_iconst (pc := 37) hV 0 dX12_namesOf_37 rfl ?_
    refine zr_istore_n (pc := 38) hV [some (ZR 0), some (ZI o), some (ZI 0), some (ZI 0), none] dX12_namesOf_38 rfl (by decide) rfl rfl ?_
    have L39 : ∀ (fuel : Nat) (x2_39 : Int) (x3_39 : Int), (0 ≤ x2_39 ∧ x2_39 ≤ 127) → (0 ≤ x3_39 ∧ x3_39 ≤ 3) → (0 ≤ x2_39 ∧ x2_39 ≤ 127) → (zq_hid (zt_p4 x2_39 = 1 ↔ zt_pn σ o x3_39)) → (x3_39 ≤ σ 5 o) → 3 - x3_39 < (fuel : Int) → V 39 [some (ZR 0), some (ZI o), some (ZI x2_39), some (ZI x3_39), none] [] 41 σ := by
      intro fuel
      induction fuel with
      | zero =>
        intro x2_39 x3_39 hx2_39 hx3_39 hi39_0 hi39_1 hi39_2 hm39
        exfalso; omega
      | succ fuel ih =>
        intro x2_39 x3_39 hx2_39 hx3_39 hi39_0 hi39_1 hi39_2 hm39
        have ih39 := ih
        show V 39 [some (ZR 0), some (ZI o), some (ZI x2_39), some (ZI x3_39), none] [] 41 σ
        refine zr_iload_n (pc := 39) hV dX12_namesOf_39 rfl rfl ?_
        refine zr_aload_n (pc := 40) hV dX12_namesOf_40 rfl rfl ?_
        refine zr_getR (pc := 41) hV 8 5 dX12_namesOf_41 fX12_32 rfl rfl rfl (by decide) (zx_g8 hσ) (by omega) ?_
        refine zr_iload_n (pc := 44) hV dX12_namesOf_44 rfl rfl ?_
        refine zr_iald (pc := 45) hV dX12_namesOf_45 rfl (by decide) rfl (by omega) ?_
        have t3 := zx_ga5 hσ o
        refine zr_icmp_ge (pc := 46) hV 121 dX12_namesOf_46 (by decide) (by omega) (by omega) (fun c4 => ?_) (fun c4 => ?_)
        · show V 121 [some (ZR 0), some (ZI o), some (ZI x2_39), some (ZI x3_39), none] [] 41 σ
          refine zr_iload_n (pc := 121) hV dX12_namesOf_121 rfl rfl ?_
          exact zr_iret (pc := 122) hV dX12_namesOf_122 rfl rfl ⟨rfl, _, rfl, (by omega), ⟨hi39_0, by have q := hi39_1; rw [show x3_39 = σ 5 o by omega] at q; exact q⟩⟩
        · show V 49 [some (ZR 0), some (ZI o), some (ZI x2_39), some (ZI x3_39), none] [] 41 σ
          refine zr_bipush (pc := 49) hV 18 dX12_namesOf_49 (by decide) ?_
          refine zr_iload_n (pc := 51) hV dX12_namesOf_51 rfl rfl ?_
          refine zr_imul (pc := 52) hV dX12_namesOf_52 ?_
          refine zr_bipush (pc := 53) hV 6 dX12_namesOf_53 (by decide) ?_
          refine zr_iload_n (pc := 55) hV dX12_namesOf_55 rfl rfl ?_
          refine zr_imul (pc := 56) hV dX12_namesOf_56 ?_
          refine zr_iadd (pc := 57) hV dX12_namesOf_57 ?_
          refine zr_istore (pc := 58) hV [some (ZR 0), some (ZI o), some (ZI x2_39), some (ZI x3_39), some (ZI ((18 * o) + (6 * x3_39)))] dX12_namesOf_58 (by decide) rfl rfl ?_
          refine zr_iload_n (pc := 60) hV dX12_namesOf_60 rfl rfl ?_
          refine zr_aload_n (pc := 61) hV dX12_namesOf_61 rfl rfl ?_
          refine zr_getR (pc := 62) hV 9 6 dX12_namesOf_62 fX12_35 rfl rfl rfl (by decide) (zx_g9 hσ) (by omega) ?_
          refine zr_iload (pc := 65) hV dX12_namesOf_65 rfl ?_
          refine zr_iald (pc := 67) hV dX12_namesOf_67 rfl (by decide) rfl (by omega) ?_
          have t5 := zx_ac0 hσ ((18 * o) + (6 * x3_39)) (by omega)
          refine zr_callSp (pc := 68) hV [ZI (σ 6 ((18 * o) + (6 * x3_39)))] (st := [ZI x2_39]) (c_X12_nameBit2 (σ := σ) (σ 6 ((18 * o) + (6 * x3_39))) (by omega)) dX12_namesOf_68 mX12_307 (by decide) (Nat.le_of_ble_eq_true rfl) (Nat.le_refl _) (fun r68 hr68 pr68 => ?_)
          refine zr_aload_n (pc := 71) hV dX12_namesOf_71 rfl rfl ?_
          refine zr_getR (pc := 72) hV 9 6 dX12_namesOf_72 fX12_35 rfl rfl rfl (by decide) (zx_g9 hσ) (by omega) ?_
          refine zr_iload (pc := 75) hV dX12_namesOf_75 rfl ?_
          refine zr_iconst (pc := 77) hV 1 dX12_namesOf_77 rfl ?_
          refine zr_iadd (pc := 78) hV dX12_namesOf_78 ?_
          refine zr_iald (pc := 79) hV dX12_namesOf_79 rfl (by decide) rfl (by omega) ?_
          have t6 := zx_ac1 hσ (((18 * o) + (6 * x3_39)) + 1) (by omega)
          refine zr_callSp (pc := 80) hV [ZI (σ 6 (((18 * o) + (6 * x3_39)) + 1))] (st := [ZI r68, ZI x2_39]) (c_X12_nameBit2 (σ := σ) (σ 6 (((18 * o) + (6 * x3_39)) + 1)) (by omega)) dX12_namesOf_80 mX12_307 (by decide) (Nat.le_of_ble_eq_true rfl) (Nat.le_refl _) (fun r80 hr80 pr80 => ?_)
          refine zr_ior (pc := 83) hV dX12_namesOf_83 ?_
          have t7 := zq_or_b (x := r68) (y := r80) 7 128 (by decide) (by decide) (by omega) (by omega)
          refine zr_aload_n (pc := 84) hV dX12_namesOf_84 rfl rfl ?_
          refine zr_getR (pc := 85) hV 9 6 dX12_namesOf_85 fX12_35 rfl rfl rfl (by decide) (zx_g9 hσ) (by omega) ?_
          refine zr_iload (pc := 88) hV dX12_namesOf_88 rfl ?_
          refine zr_iconst (pc := 90) hV 3 dX12_namesOf_90 rfl ?_
          refine zr_iadd (pc := 91) hV dX12_namesOf_91 ?_
          refine zr_iald (pc := 92) hV dX12_namesOf_92 rfl (by decide) rfl (by omega) ?_
          have t8 := zx_ac3 hσ (((18 * o) + (6 * x3_39)) + 3) (by omega)
          refine zr_if_le (pc := 93) hV 111 dX12_namesOf_93 (by decide) (by omega) (fun c9 => ?_) (fun c9 => ?_)
          · show V 111 [some (ZR 0), some (ZI o), some (ZI x2_39), some (ZI x3_39), some (ZI ((18 * o) + (6 * x3_39)))] [ZI (zq_or r68 r80), ZI x2_39] 41 σ
            refine zr_iconst (pc := 111) hV 0 dX12_namesOf_111 rfl ?_
            show V 112 [some (ZR 0), some (ZI o), some (ZI x2_39), some (ZI x3_39), some (ZI ((18 * o) + (6 * x3_39)))] [ZI 0, ZI (zq_or r68 r80), ZI x2_39] 41 σ
            refine zr_ior (pc := 112) hV dX12_namesOf_112 ?_
            have t10 := zq_or_b (x := zq_or r68 r80) (y := 0) 7 128 (by decide) (by decide) (by omega) (by omega)
            refine zr_ior (pc := 113) hV dX12_namesOf_113 ?_
            have t11 := zq_or_b (x := x2_39) (y := zq_or (zq_or r68 r80) 0) 7 128 (by decide) (by decide) (by omega) (by omega)
            refine zr_istore_n (pc := 114) hV [some (ZR 0), some (ZI o), some (ZI (zq_or x2_39 (zq_or (zq_or r68 r80) 0))), some (ZI x3_39), some (ZI ((18 * o) + (6 * x3_39)))] dX12_namesOf_114 rfl (by decide) rfl rfl ?_
            refine zr_iinc (pc := 115) hV [some (ZR 0), some (ZI o), some (ZI (zq_or x2_39 (zq_or (zq_or r68 r80) 0))), some (ZI (x3_39 + 1)), some (ZI ((18 * o) + (6 * x3_39)))] (x3_39 + 1) dX12_namesOf_115 rfl rfl (by decide) rfl rfl ?_
            refine zr_goto (pc := 118) hV 39 dX12_namesOf_118 (by decide) ?_
            refine zr_sub (pc := 39) hV [some (ZR 0), some (ZI o), some (ZI (zq_or x2_39 (zq_or (zq_or r68 r80) 0))), some (ZI (x3_39 + 1)), none] (⟨rfl, rfl, rfl, rfl, trivial⟩) ?_
            exact ih39 (zq_or x2_39 (zq_or (zq_or r68 r80) 0)) (x3_39 + 1) (by omega) (by omega) (zt_pn_st (by omega) hi39_0 ⟨by omega, by omega⟩ ⟨by omega, by omega⟩ ⟨by omega, by omega⟩ hi39_1 pr68.2.2 pr80.2.2 (by refine ⟨fun h => absurd h (by decide), fun h => absurd h.1 (by omega)⟩)).1 (zt_pn_st (by omega) hi39_0 ⟨by omega, by omega⟩ ⟨by omega, by omega⟩ ⟨by omega, by omega⟩ hi39_1 pr68.2.2 pr80.2.2 (by refine ⟨fun h => absurd h (by decide), fun h => absurd h.1 (by omega)⟩)).2 (by omega) (by omega)
          · show V 96 [some (ZR 0), some (ZI o), some (ZI x2_39), some (ZI x3_39), some (ZI ((18 * o) + (6 * x3_39)))] [ZI (zq_or r68 r80), ZI x2_39] 41 σ
            refine zr_aload_n (pc := 96) hV dX12_namesOf_96 rfl rfl ?_
            refine zr_getR (pc := 97) hV 9 6 dX12_namesOf_97 fX12_35 rfl rfl rfl (by decide) (zx_g9 hσ) (by omega) ?_
            refine zr_iload (pc := 100) hV dX12_namesOf_100 rfl ?_
            refine zr_iconst (pc := 102) hV 4 dX12_namesOf_102 rfl ?_
            refine zr_iadd (pc := 103) hV dX12_namesOf_103 ?_
            refine zr_iald (pc := 104) hV dX12_namesOf_104 rfl (by decide) rfl (by omega) ?_
            have t12 := zx_ac4 hσ (((18 * o) + (6 * x3_39)) + 4) (by omega)
            have za := q1 x3_39 (by omega) (by omega)
            refine zr_callSp (pc := 105) hV [ZI (σ 6 (((18 * o) + (6 * x3_39)) + 4))] (st := [ZI (zq_or r68 r80), ZI x2_39]) (c_X12_nameBit2 (σ := σ) (σ 6 (((18 * o) + (6 * x3_39)) + 4)) (by omega)) dX12_namesOf_105 mX12_307 (by decide) (Nat.le_of_ble_eq_true rfl) (Nat.le_refl _) (fun r105 hr105 pr105 => ?_)
            refine zr_goto (pc := 108) hV 112 dX12_namesOf_108 (by decide) ?_
            show V 112 [some (ZR 0), some (ZI o), some (ZI x2_39), some (ZI x3_39), some (ZI ((18 * o) + (6 * x3_39)))] [ZI r105, ZI (zq_or r68 r80), ZI x2_39] 41 σ
            refine zr_ior (pc := 112) hV dX12_namesOf_112 ?_
            have t13 := zq_or_b (x := zq_or r68 r80) (y := r105) 7 128 (by decide) (by decide) (by omega) (by omega)
            refine zr_ior (pc := 113) hV dX12_namesOf_113 ?_
            have t14 := zq_or_b (x := x2_39) (y := zq_or (zq_or r68 r80) r105) 7 128 (by decide) (by decide) (by omega) (by omega)
            refine zr_istore_n (pc := 114) hV [some (ZR 0), some (ZI o), some (ZI (zq_or x2_39 (zq_or (zq_or r68 r80) r105))), some (ZI x3_39), some (ZI ((18 * o) + (6 * x3_39)))] dX12_namesOf_114 rfl (by decide) rfl rfl ?_
            refine zr_iinc (pc := 115) hV [some (ZR 0), some (ZI o), some (ZI (zq_or x2_39 (zq_or (zq_or r68 r80) r105))), some (ZI (x3_39 + 1)), some (ZI ((18 * o) + (6 * x3_39)))] (x3_39 + 1) dX12_namesOf_115 rfl rfl (by decide) rfl rfl ?_
            refine zr_goto (pc := 118) hV 39 dX12_namesOf_118 (by decide) ?_
            refine zr_sub (pc := 39) hV [some (ZR 0), some (ZI o), some (ZI (zq_or x2_39 (zq_or (zq_or r68 r80) r105))), some (ZI (x3_39 + 1)), none] (⟨rfl, rfl, rfl, rfl, trivial⟩) ?_
            exact ih39 (zq_or x2_39 (zq_or (zq_or r68 r80) r105)) (x3_39 + 1) (by omega) (by omega) (zt_pn_st (by omega) hi39_0 ⟨by omega, by omega⟩ ⟨by omega, by omega⟩ ⟨by omega, by omega⟩ hi39_1 pr68.2.2 pr80.2.2 (by rw [pr105.2.2]; omega)).1 (zt_pn_st (by omega) hi39_0 ⟨by omega, by omega⟩ ⟨by omega, by omega⟩ ⟨by omega, by omega⟩ hi39_1 pr68.2.2 pr80.2.2 (by rw [pr105.2.2]; omega)).2 (by omega) (by omega)
    exact L39 (3 - (0 : Int) + 1 : Int).toNat 0 0 (by omega) (by omega) ⟨by decide, by decide⟩ ⟨fun h => absurd h (by decide), fun h => absurd h (zt_pn_0 σ o)⟩ (by omega) (by omega)
  · show V 9 [some (ZR 0), some (ZI o), none, none, none] [] 41 σ
    refine zr_aload_n (pc := 9) hV dX12_namesOf_9 rfl rfl ?_
    refine zr_getR (pc := 10) hV 7 4 dX12_namesOf_10 fX12_29 rfl rfl rfl (by decide) (zx_g7 hσ) (by omega) ?_
    refine zr_iload_n (pc := 13) hV dX12_namesOf_13 rfl rfl ?_
    refine zr_iald (pc := 14) hV dX12_namesOf_14 rfl (by decide) rfl (by omega) ?_
    have t15 := zx_ga4 hσ o
    refine zr_iconst (pc := 15) hV 4 dX12_namesOf_15 rfl ?_
    refine zr_icmp_ne (pc := 16) hV 24 dX12_namesOf_16 (by decide) (by omega) ⟨by decide, by decide⟩ (fun c16 => ?_) (fun c16 => ?_)
    · show V 24 [some (ZR 0), some (ZI o), none, none, none] [] 41 σ
      refine zr_iconst (pc := 24) hV 1 dX12_namesOf_24 rfl ?_
      refine zr_aload_n (pc := 25) hV dX12_namesOf_25 rfl rfl ?_
      refine zr_getR (pc := 26) hV 7 4 dX12_namesOf_26 fX12_29 rfl rfl rfl (by decide) (zx_g7 hσ) (by omega) ?_
      refine zr_iload_n (pc := 29) hV dX12_namesOf_29 rfl rfl ?_
      refine zr_iald (pc := 30) hV dX12_namesOf_30 rfl (by decide) rfl (by omega) ?_
      have t17 := zx_ga4 hσ o
      refine zr_ishl (pc := 31) hV dX12_namesOf_31 ?_
      have t18 := zx_shl_one (y := σ 4 o) 3 8 (by decide) (by decide) (by omega)
      refine zr_goto (pc := 32) hV 36 dX12_namesOf_32 (by decide) ?_
      show V 36 [some (ZR 0), some (ZI o), none, none, none] [ZI (zq_shl 1 (σ 4 o))] 41 σ
      refine zr_istore_n (pc := 36) hV [some (ZR 0), some (ZI o), some (ZI (zq_shl 1 (σ 4 o))), none, none] dX12_namesOf_36 rfl (by decide) rfl rfl ?_
      refine zr_iconst (pc := 37) hV 0 dX12_namesOf_37 rfl ?_
      refine zr_istore_n (pc := 38) hV [some (ZR 0), some (ZI o), some (ZI (zq_shl 1 (σ 4 o))), some (ZI 0), none] dX12_namesOf_38 rfl (by decide) rfl rfl ?_
      have L39 : ∀ (fuel : Nat) (x2_39 : Int) (x3_39 : Int), (0 ≤ x2_39 ∧ x2_39 ≤ 127) → (0 ≤ x3_39 ∧ x3_39 ≤ 3) → (0 ≤ x2_39 ∧ x2_39 ≤ 127) → (zq_hid (zt_p4 x2_39 = 1 ↔ zt_pn σ o x3_39)) → (x3_39 ≤ σ 5 o) → 3 - x3_39 < (fuel : Int) → V 39 [some (ZR 0), some (ZI o), some (ZI x2_39), some (ZI x3_39), none] [] 41 σ := by
        intro fuel
        induction fuel with
        | zero =>
          intro x2_39 x3_39 hx2_39 hx3_39 hi39_0 hi39_1 hi39_2 hm39
          exfalso; omega
        | succ fuel ih =>
          intro x2_39 x3_39 hx2_39 hx3_39 hi39_0 hi39_1 hi39_2 hm39
          have ih39 := ih
          show V 39 [some (ZR 0), some (ZI o), some (ZI x2_39), some (ZI x3_39), none] [] 41 σ
          refine zr_iload_n (pc := 39) hV dX12_namesOf_39 rfl rfl ?_
          refine zr_aload_n (pc := 40) hV dX12_namesOf_40 rfl rfl ?_
          refine zr_getR (pc := 41) hV 8 5 dX12_namesOf_41 fX12_32 rfl rfl rfl (by decide) (zx_g8 hσ) (by omega) ?_
          refine zr_iload_n (pc := 44) hV dX12_namesOf_44 rfl rfl ?_
          refine zr_iald (pc := 45) hV dX12_namesOf_45 rfl (by decide) rfl (by omega) ?_
          have t19 := zx_ga5 hσ o
          refine zr_icmp_ge (pc := 46) hV 121 dX12_namesOf_46 (by decide) (by omega) (by omega) (fun c20 => ?_) (fun c20 => ?_)
          · show V 121 [some (ZR 0), some (ZI o), some (ZI x2_39), some (ZI x3_39), none] [] 41 σ
            refine zr_iload_n (pc := 121) hV dX12_namesOf_121 rfl rfl ?_
            exact zr_iret (pc := 122) hV dX12_namesOf_122 rfl rfl ⟨rfl, _, rfl, (by omega), ⟨hi39_0, by have q := hi39_1; rw [show x3_39 = σ 5 o by omega] at q; exact q⟩⟩
          · show V 49 [some (ZR 0), some (ZI o), some (ZI x2_39), some (ZI x3_39), none] [] 41 σ
            refine zr_bipush (pc := 49) hV 18 dX12_namesOf_49 (by decide) ?_
            refine zr_iload_n (pc := 51) hV dX12_namesOf_51 rfl rfl ?_
            refine zr_imul (pc := 52) hV dX12_namesOf_52 ?_
            refine zr_bipush (pc := 53) hV 6 dX12_namesOf_53 (by decide) ?_
            refine zr_iload_n (pc := 55) hV dX12_namesOf_55 rfl rfl ?_
            refine zr_imul (pc := 56) hV dX12_namesOf_56 ?_
            refine zr_iadd (pc := 57) hV dX12_namesOf_57 ?_
            refine zr_istore (pc := 58) hV [some (ZR 0), some (ZI o), some (ZI x2_39), some (ZI x3_39), some (ZI ((18 * o) + (6 * x3_39)))] dX12_namesOf_58 (by decide) rfl rfl ?_
            refine zr_iload_n (pc := 60) hV dX12_namesOf_60 rfl rfl ?_
            refine zr_aload_n (pc := 61) hV dX12_namesOf_61 rfl rfl ?_
            refine zr_getR (pc := 62) hV 9 6 dX12_namesOf_62 fX12_35 rfl rfl rfl (by decide) (zx_g9 hσ) (by omega) ?_
            refine zr_iload (pc := 65) hV dX12_namesOf_65 rfl ?_
            refine zr_iald (pc := 67) hV dX12_namesOf_67 rfl (by decide) rfl (by omega) ?_
            have t21 := zx_ac0 hσ ((18 * o) + (6 * x3_39)) (by omega)
            refine zr_callSp (pc := 68) hV [ZI (σ 6 ((18 * o) + (6 * x3_39)))] (st := [ZI x2_39]) (c_X12_nameBit2 (σ := σ) (σ 6 ((18 * o) + (6 * x3_39))) (by omega)) dX12_namesOf_68 mX12_307 (by decide) (Nat.le_of_ble_eq_true rfl) (Nat.le_refl _) (fun r68 hr68 pr68 => ?_)
            refine zr_aload_n (pc := 71) hV dX12_namesOf_71 rfl rfl ?_
            refine zr_getR (pc := 72) hV 9 6 dX12_namesOf_72 fX12_35 rfl rfl rfl (by decide) (zx_g9 hσ) (by omega) ?_
            refine zr_iload (pc := 75) hV dX12_namesOf_75 rfl ?_
            refine zr_iconst (pc := 77) hV 1 dX12_namesOf_77 rfl ?_
            refine zr_iadd (pc := 78) hV dX12_namesOf_78 ?_
            refine zr_iald (pc := 79) hV dX12_namesOf_79 rfl (by decide) rfl (by omega) ?_
            have t22 := zx_ac1 hσ (((18 * o) + (6 * x3_39)) + 1) (by omega)
            refine zr_callSp (pc := 80) hV [ZI (σ 6 (((18 * o) + (6 * x3_39)) + 1))] (st := [ZI r68, ZI x2_39]) (c_X12_nameBit2 (σ := σ) (σ 6 (((18 * o) + (6 * x3_39)) + 1)) (by omega)) dX12_namesOf_80 mX12_307 (by decide) (Nat.le_of_ble_eq_true rfl) (Nat.le_refl _) (fun r80 hr80 pr80 => ?_)
            refine zr_ior (pc := 83) hV dX12_namesOf_83 ?_
            have t23 := zq_or_b (x := r68) (y := r80) 7 128 (by decide) (by decide) (by omega) (by omega)
            refine zr_aload_n (pc := 84) hV dX12_namesOf_84 rfl rfl ?_
            refine zr_getR (pc := 85) hV 9 6 dX12_namesOf_85 fX12_35 rfl rfl rfl (by decide) (zx_g9 hσ) (by omega) ?_
            refine zr_iload (pc := 88) hV dX12_namesOf_88 rfl ?_
            refine zr_iconst (pc := 90) hV 3 dX12_namesOf_90 rfl ?_
            refine zr_iadd (pc := 91) hV dX12_namesOf_91 ?_
            refine zr_iald (pc := 92) hV dX12_namesOf_92 rfl (by decide) rfl (by omega) ?_
            have t24 := zx_ac3 hσ (((18 * o) + (6 * x3_39)) + 3) (by omega)
            refine zr_if_le (pc := 93) hV 111 dX12_namesOf_93 (by decide) (by omega) (fun c25 => ?_) (fun c25 => ?_)
            · show V 111 [some (ZR 0), some (ZI o), some (ZI x2_39), some (ZI x3_39), some (ZI ((18 * o) + (6 * x3_39)))] [ZI (zq_or r68 r80), ZI x2_39] 41 σ
              refine zr_iconst (pc := 111) hV 0 dX12_namesOf_111 rfl ?_
              show V 112 [some (ZR 0), some (ZI o), some (ZI x2_39), some (ZI x3_39), some (ZI ((18 * o) + (6 * x3_39)))] [ZI 0, ZI (zq_or r68 r80), ZI x2_39] 41 σ
              refine zr_ior (pc := 112) hV dX12_namesOf_112 ?_
              have t26 := zq_or_b (x := zq_or r68 r80) (y := 0) 7 128 (by decide) (by decide) (by omega) (by omega)
              refine zr_ior (pc := 113) hV dX12_namesOf_113 ?_
              have t27 := zq_or_b (x := x2_39) (y := zq_or (zq_or r68 r80) 0) 7 128 (by decide) (by decide) (by omega) (by omega)
              refine zr_istore_n (pc := 114) hV [some (ZR 0), some (ZI o), some (ZI (zq_or x2_39 (zq_or (zq_or r68 r80) 0))), some (ZI x3_39), some (ZI ((18 * o) + (6 * x3_39)))] dX12_namesOf_114 rfl (by decide) rfl rfl ?_
              refine zr_iinc (pc := 115) hV [some (ZR 0), some (ZI o), some (ZI (zq_or x2_39 (zq_or (zq_or r68 r80) 0))), some (ZI (x3_39 + 1)), some (ZI ((18 * o) + (6 * x3_39)))] (x3_39 + 1) dX12_namesOf_115 rfl rfl (by decide) rfl rfl ?_
              refine zr_goto (pc := 118) hV 39 dX12_namesOf_118 (by decide) ?_
              refine zr_sub (pc := 39) hV [some (ZR 0), some (ZI o), some (ZI (zq_or x2_39 (zq_or (zq_or r68 r80) 0))), some (ZI (x3_39 + 1)), none] (⟨rfl, rfl, rfl, rfl, trivial⟩) ?_
              exact ih39 (zq_or x2_39 (zq_or (zq_or r68 r80) 0)) (x3_39 + 1) (by omega) (by omega) (zt_pn_st (by omega) hi39_0 ⟨by omega, by omega⟩ ⟨by omega, by omega⟩ ⟨by omega, by omega⟩ hi39_1 pr68.2.2 pr80.2.2 (by refine ⟨fun h => absurd h (by decide), fun h => absurd h.1 (by omega)⟩)).1 (zt_pn_st (by omega) hi39_0 ⟨by omega, by omega⟩ ⟨by omega, by omega⟩ ⟨by omega, by omega⟩ hi39_1 pr68.2.2 pr80.2.2 (by refine ⟨fun h => absurd h (by decide), fun h => absurd h.1 (by omega)⟩)).2 (by omega) (by omega)
            · show V 96 [some (ZR 0), some (ZI o), some (ZI x2_39), some (ZI x3_39), some (ZI ((18 * o) + (6 * x3_39)))] [ZI (zq_or r68 r80), ZI x2_39] 41 σ
              refine zr_aload_n (pc := 96) hV dX12_namesOf_96 rfl rfl ?_
              refine zr_getR (pc := 97) hV 9 6 dX12_namesOf_97 fX12_35 rfl rfl rfl (by decide) (zx_g9 hσ) (by omega) ?_
              refine zr_iload (pc := 100) hV dX12_namesOf_100 rfl ?_
              refine zr_iconst (pc := 102) hV 4 dX12_namesOf_102 rfl ?_
              refine zr_iadd (pc := 103) hV dX12_namesOf_103 ?_
              refine zr_iald (pc := 104) hV dX12_namesOf_104 rfl (by decide) rfl (by omega) ?_
              have t28 := zx_ac4 hσ (((18 * o) + (6 * x3_39)) + 4) (by omega)
              have za := q1 x3_39 (by omega) (by omega)
              refine zr_callSp (pc := 105) hV [ZI (σ 6 (((18 * o) + (6 * x3_39)) + 4))] (st := [ZI (zq_or r68 r80), ZI x2_39]) (c_X12_nameBit2 (σ := σ) (σ 6 (((18 * o) + (6 * x3_39)) + 4)) (by omega)) dX12_namesOf_105 mX12_307 (by decide) (Nat.le_of_ble_eq_true rfl) (Nat.le_refl _) (fun r105 hr105 pr105 => ?_)
              refine zr_goto (pc := 108) hV 112 dX12_namesOf_108 (by decide) ?_
              show V 112 [some (ZR 0), some (ZI o), some (ZI x2_39), some (ZI x3_39), some (ZI ((18 * o) + (6 * x3_39)))] [ZI r105, ZI (zq_or r68 r80), ZI x2_39] 41 σ
              refine zr_ior (pc := 112) hV dX12_namesOf_112 ?_
              have t29 := zq_or_b (x := zq_or r68 r80) (y := r105) 7 128 (by decide) (by decide) (by omega) (by omega)
              refine zr_ior (pc := 113) hV dX12_namesOf_113 ?_
              have t30 := zq_or_b (x := x2_39) (y := zq_or (zq_or r68 r80) r105) 7 128 (by decide) (by decide) (by omega) (by omega)
              refine zr_istore_n (pc := 114) hV [some (ZR 0), some (ZI o), some (ZI (zq_or x2_39 (zq_or (zq_or r68 r80) r105))), some (ZI x3_39), some (ZI ((18 * o) + (6 * x3_39)))] dX12_namesOf_114 rfl (by decide) rfl rfl ?_
              refine zr_iinc (pc := 115) hV [some (ZR 0), some (ZI o), some (ZI (zq_or x2_39 (zq_or (zq_or r68 r80) r105))), some (ZI (x3_39 + 1)), some (ZI ((18 * o) + (6 * x3_39)))] (x3_39 + 1) dX12_namesOf_115 rfl rfl (by decide) rfl rfl ?_
              refine zr_goto (pc := 118) hV 39 dX12_namesOf_118 (by decide) ?_
              refine zr_sub (pc := 39) hV [some (ZR 0), some (ZI o), some (ZI (zq_or x2_39 (zq_or (zq_or r68 r80) r105))), some (ZI (x3_39 + 1)), none] (⟨rfl, rfl, rfl, rfl, trivial⟩) ?_
              exact ih39 (zq_or x2_39 (zq_or (zq_or r68 r80) r105)) (x3_39 + 1) (by omega) (by omega) (zt_pn_st (by omega) hi39_0 ⟨by omega, by omega⟩ ⟨by omega, by omega⟩ ⟨by omega, by omega⟩ hi39_1 pr68.2.2 pr80.2.2 (by rw [pr105.2.2]; omega)).1 (zt_pn_st (by omega) hi39_0 ⟨by omega, by omega⟩ ⟨by omega, by omega⟩ ⟨by omega, by omega⟩ hi39_1 pr68.2.2 pr80.2.2 (by rw [pr105.2.2]; omega)).2 (by omega) (by omega)
      exact L39 (3 - (0 : Int) + 1 : Int).toNat (zq_shl 1 (σ 4 o)) 0 (by omega) (by omega) (by have q : (0 ≤ zq_shl 1 (σ 4 o) ∧ zq_shl 1 (σ 4 o) ≤ 127) ∧ zt_p4 (zq_shl 1 (σ 4 o)) ≠ 1 := (by have g4 : σ 4 o = 0 ∨ σ 4 o = 1 ∨ σ 4 o = 2 ∨ σ 4 o = 3 ∨ σ 4 o = 4 := (by omega); rcases g4 with h | h | h | h | h; all_goals first | (exfalso; omega) | (rw [h]; decide)); exact q.1) (by have q : (0 ≤ zq_shl 1 (σ 4 o) ∧ zq_shl 1 (σ 4 o) ≤ 127) ∧ zt_p4 (zq_shl 1 (σ 4 o)) ≠ 1 := (by have g4 : σ 4 o = 0 ∨ σ 4 o = 1 ∨ σ 4 o = 2 ∨ σ 4 o = 3 ∨ σ 4 o = 4 := (by omega); rcases g4 with h | h | h | h | h; all_goals first | (exfalso; omega) | (rw [h]; decide)); exact ⟨fun h => absurd h q.2, fun h => absurd h (zt_pn_0 σ o)⟩) (by omega) (by omega)
    · show V 19 [some (ZR 0), some (ZI o), none, none, none] [] 41 σ
      refine zr_bipush (pc := 19) hV 8 dX12_namesOf_19 (by decide) ?_
      refine zr_goto (pc := 21) hV 36 dX12_namesOf_21 (by decide) ?_
      show V 36 [some (ZR 0), some (ZI o), none, none, none] [ZI 8] 41 σ
      refine zr_istore_n (pc := 36) hV [some (ZR 0), some (ZI o), some (ZI 8), none, none] dX12_namesOf_36 rfl (by decide) rfl rfl ?_
      refine zr_iconst (pc := 37) hV 0 dX12_namesOf_37 rfl ?_
      refine zr_istore_n (pc := 38) hV [some (ZR 0), some (ZI o), some (ZI 8), some (ZI 0), none] dX12_namesOf_38 rfl (by decide) rfl rfl ?_
      have L39 : ∀ (fuel : Nat) (x2_39 : Int) (x3_39 : Int), (0 ≤ x2_39 ∧ x2_39 ≤ 127) → (0 ≤ x3_39 ∧ x3_39 ≤ 3) → (0 ≤ x2_39 ∧ x2_39 ≤ 127) → (zq_hid (zt_p4 x2_39 = 1 ↔ zt_pn σ o x3_39)) → (x3_39 ≤ σ 5 o) → 3 - x3_39 < (fuel : Int) → V 39 [some (ZR 0), some (ZI o), some (ZI x2_39), some (ZI x3_39), none] [] 41 σ := by
        intro fuel
        induction fuel with
        | zero =>
          intro x2_39 x3_39 hx2_39 hx3_39 hi39_0 hi39_1 hi39_2 hm39
          exfalso; omega
        | succ fuel ih =>
          intro x2_39 x3_39 hx2_39 hx3_39 hi39_0 hi39_1 hi39_2 hm39
          have ih39 := ih
          show V 39 [some (ZR 0), some (ZI o), some (ZI x2_39), some (ZI x3_39), none] [] 41 σ
          refine zr_iload_n (pc := 39) hV dX12_namesOf_39 rfl rfl ?_
          refine zr_aload_n (pc := 40) hV dX12_namesOf_40 rfl rfl ?_
          refine zr_getR (pc := 41) hV 8 5 dX12_namesOf_41 fX12_32 rfl rfl rfl (by decide) (zx_g8 hσ) (by omega) ?_
          refine zr_iload_n (pc := 44) hV dX12_namesOf_44 rfl rfl ?_
          refine zr_iald (pc := 45) hV dX12_namesOf_45 rfl (by decide) rfl (by omega) ?_
          have t31 := zx_ga5 hσ o
          refine zr_icmp_ge (pc := 46) hV 121 dX12_namesOf_46 (by decide) (by omega) (by omega) (fun c32 => ?_) (fun c32 => ?_)
          · show V 121 [some (ZR 0), some (ZI o), some (ZI x2_39), some (ZI x3_39), none] [] 41 σ
            refine zr_iload_n (pc := 121) hV dX12_namesOf_121 rfl rfl ?_
            exact zr_iret (pc := 122) hV dX12_namesOf_122 rfl rfl ⟨rfl, _, rfl, (by omega), ⟨hi39_0, by have q := hi39_1; rw [show x3_39 = σ 5 o by omega] at q; exact q⟩⟩
          · show V 49 [some (ZR 0), some (ZI o), some (ZI x2_39), some (ZI x3_39), none] [] 41 σ
            refine zr_bipush (pc := 49) hV 18 dX12_namesOf_49 (by decide) ?_
            refine zr_iload_n (pc := 51) hV dX12_namesOf_51 rfl rfl ?_
            refine zr_imul (pc := 52) hV dX12_namesOf_52 ?_
            refine zr_bipush (pc := 53) hV 6 dX12_namesOf_53 (by decide) ?_
            refine zr_iload_n (pc := 55) hV dX12_namesOf_55 rfl rfl ?_
            refine zr_imul (pc := 56) hV dX12_namesOf_56 ?_
            refine zr_iadd (pc := 57) hV dX12_namesOf_57 ?_
            refine zr_istore (pc := 58) hV [some (ZR 0), some (ZI o), some (ZI x2_39), some (ZI x3_39), some (ZI ((18 * o) + (6 * x3_39)))] dX12_namesOf_58 (by decide) rfl rfl ?_
            refine zr_iload_n (pc := 60) hV dX12_namesOf_60 rfl rfl ?_
            refine zr_aload_n (pc := 61) hV dX12_namesOf_61 rfl rfl ?_
            refine zr_getR (pc := 62) hV 9 6 dX12_namesOf_62 fX12_35 rfl rfl rfl (by decide) (zx_g9 hσ) (by omega) ?_
            refine zr_iload (pc := 65) hV dX12_namesOf_65 rfl ?_
            refine zr_iald (pc := 67) hV dX12_namesOf_67 rfl (by decide) rfl (by omega) ?_
            have t33 := zx_ac0 hσ ((18 * o) + (6 * x3_39)) (by omega)
            refine zr_callSp (pc := 68) hV [ZI (σ 6 ((18 * o) + (6 * x3_39)))] (st := [ZI x2_39]) (c_X12_nameBit2 (σ := σ) (σ 6 ((18 * o) + (6 * x3_39))) (by omega)) dX12_namesOf_68 mX12_307 (by decide) (Nat.le_of_ble_eq_true rfl) (Nat.le_refl _) (fun r68 hr68 pr68 => ?_)
            refine zr_aload_n (pc := 71) hV dX12_namesOf_71 rfl rfl ?_
            refine zr_getR (pc := 72) hV 9 6 dX12_namesOf_72 fX12_35 rfl rfl rfl (by decide) (zx_g9 hσ) (by omega) ?_
            refine zr_iload (pc := 75) hV dX12_namesOf_75 rfl ?_
            refine zr_iconst (pc := 77) hV 1 dX12_namesOf_77 rfl ?_
            refine zr_iadd (pc := 78) hV dX12_namesOf_78 ?_
            refine zr_iald (pc := 79) hV dX12_namesOf_79 rfl (by decide) rfl (by omega) ?_
            have t34 := zx_ac1 hσ (((18 * o) + (6 * x3_39)) + 1) (by omega)
            refine zr_callSp (pc := 80) hV [ZI (σ 6 (((18 * o) + (6 * x3_39)) + 1))] (st := [ZI r68, ZI x2_39]) (c_X12_nameBit2 (σ := σ) (σ 6 (((18 * o) + (6 * x3_39)) + 1)) (by omega)) dX12_namesOf_80 mX12_307 (by decide) (Nat.le_of_ble_eq_true rfl) (Nat.le_refl _) (fun r80 hr80 pr80 => ?_)
            refine zr_ior (pc := 83) hV dX12_namesOf_83 ?_
            have t35 := zq_or_b (x := r68) (y := r80) 7 128 (by decide) (by decide) (by omega) (by omega)
            refine zr_aload_n (pc := 84) hV dX12_namesOf_84 rfl rfl ?_
            refine zr_getR (pc := 85) hV 9 6 dX12_namesOf_85 fX12_35 rfl rfl rfl (by decide) (zx_g9 hσ) (by omega) ?_
            refine zr_iload (pc := 88) hV dX12_namesOf_88 rfl ?_
            refine zr_iconst (pc := 90) hV 3 dX12_namesOf_90 rfl ?_
            refine zr_iadd (pc := 91) hV dX12_namesOf_91 ?_
            refine zr_iald (pc := 92) hV dX12_namesOf_92 rfl (by decide) rfl (by omega) ?_
            have t36 := zx_ac3 hσ (((18 * o) + (6 * x3_39)) + 3) (by omega)
            refine zr_if_le (pc := 93) hV 111 dX12_namesOf_93 (by decide) (by omega) (fun c37 => ?_) (fun c37 => ?_)
            · show V 111 [some (ZR 0), some (ZI o), some (ZI x2_39), some (ZI x3_39), some (ZI ((18 * o) + (6 * x3_39)))] [ZI (zq_or r68 r80), ZI x2_39] 41 σ
              refine zr_iconst (pc := 111) hV 0 dX12_namesOf_111 rfl ?_
              show V 112 [some (ZR 0), some (ZI o), some (ZI x2_39), some (ZI x3_39), some (ZI ((18 * o) + (6 * x3_39)))] [ZI 0, ZI (zq_or r68 r80), ZI x2_39] 41 σ
              refine zr_ior (pc := 112) hV dX12_namesOf_112 ?_
              have t38 := zq_or_b (x := zq_or r68 r80) (y := 0) 7 128 (by decide) (by decide) (by omega) (by omega)
              refine zr_ior (pc := 113) hV dX12_namesOf_113 ?_
              have t39 := zq_or_b (x := x2_39) (y := zq_or (zq_or r68 r80) 0) 7 128 (by decide) (by decide) (by omega) (by omega)
              refine zr_istore_n (pc := 114) hV [some (ZR 0), some (ZI o), some (ZI (zq_or x2_39 (zq_or (zq_or r68 r80) 0))), some (ZI x3_39), some (ZI ((18 * o) + (6 * x3_39)))] dX12_namesOf_114 rfl (by decide) rfl rfl ?_
              refine zr_iinc (pc := 115) hV [some (ZR 0), some (ZI o), some (ZI (zq_or x2_39 (zq_or (zq_or r68 r80) 0))), some (ZI (x3_39 + 1)), some (ZI ((18 * o) + (6 * x3_39)))] (x3_39 + 1) dX12_namesOf_115 rfl rfl (by decide) rfl rfl ?_
              refine zr_goto (pc := 118) hV 39 dX12_namesOf_118 (by decide) ?_
              refine zr_sub (pc := 39) hV [some (ZR 0), some (ZI o), some (ZI (zq_or x2_39 (zq_or (zq_or r68 r80) 0))), some (ZI (x3_39 + 1)), none] (⟨rfl, rfl, rfl, rfl, trivial⟩) ?_
              exact ih39 (zq_or x2_39 (zq_or (zq_or r68 r80) 0)) (x3_39 + 1) (by omega) (by omega) (zt_pn_st (by omega) hi39_0 ⟨by omega, by omega⟩ ⟨by omega, by omega⟩ ⟨by omega, by omega⟩ hi39_1 pr68.2.2 pr80.2.2 (by refine ⟨fun h => absurd h (by decide), fun h => absurd h.1 (by omega)⟩)).1 (zt_pn_st (by omega) hi39_0 ⟨by omega, by omega⟩ ⟨by omega, by omega⟩ ⟨by omega, by omega⟩ hi39_1 pr68.2.2 pr80.2.2 (by refine ⟨fun h => absurd h (by decide), fun h => absurd h.1 (by omega)⟩)).2 (by omega) (by omega)
            · show V 96 [some (ZR 0), some (ZI o), some (ZI x2_39), some (ZI x3_39), some (ZI ((18 * o) + (6 * x3_39)))] [ZI (zq_or r68 r80), ZI x2_39] 41 σ
              refine zr_aload_n (pc := 96) hV dX12_namesOf_96 rfl rfl ?_
              refine zr_getR (pc := 97) hV 9 6 dX12_namesOf_97 fX12_35 rfl rfl rfl (by decide) (zx_g9 hσ) (by omega) ?_
              refine zr_iload (pc := 100) hV dX12_namesOf_100 rfl ?_
              refine zr_iconst (pc := 102) hV 4 dX12_namesOf_102 rfl ?_
              refine zr_iadd (pc := 103) hV dX12_namesOf_103 ?_
              refine zr_iald (pc := 104) hV dX12_namesOf_104 rfl (by decide) rfl (by omega) ?_
              have t40 := zx_ac4 hσ (((18 * o) + (6 * x3_39)) + 4) (by omega)
              have za := q1 x3_39 (by omega) (by omega)
              refine zr_callSp (pc := 105) hV [ZI (σ 6 (((18 * o) + (6 * x3_39)) + 4))] (st := [ZI (zq_or r68 r80), ZI x2_39]) (c_X12_nameBit2 (σ := σ) (σ 6 (((18 * o) + (6 * x3_39)) + 4)) (by omega)) dX12_namesOf_105 mX12_307 (by decide) (Nat.le_of_ble_eq_true rfl) (Nat.le_refl _) (fun r105 hr105 pr105 => ?_)
              refine zr_goto (pc := 108) hV 112 dX12_namesOf_108 (by decide) ?_
              show V 112 [some (ZR 0), some (ZI o), some (ZI x2_39), some (ZI x3_39), some (ZI ((18 * o) + (6 * x3_39)))] [ZI r105, ZI (zq_or r68 r80), ZI x2_39] 41 σ
              refine zr_ior (pc := 112) hV dX12_namesOf_112 ?_
              have t41 := zq_or_b (x := zq_or r68 r80) (y := r105) 7 128 (by decide) (by decide) (by omega) (by omega)
              refine zr_ior (pc := 113) hV dX12_namesOf_113 ?_
              have t42 := zq_or_b (x := x2_39) (y := zq_or (zq_or r68 r80) r105) 7 128 (by decide) (by decide) (by omega) (by omega)
              refine zr_istore_n (pc := 114) hV [some (ZR 0), some (ZI o), some (ZI (zq_or x2_39 (zq_or (zq_or r68 r80) r105))), some (ZI x3_39), some (ZI ((18 * o) + (6 * x3_39)))] dX12_namesOf_114 rfl (by decide) rfl rfl ?_
              refine zr_iinc (pc := 115) hV [some (ZR 0), some (ZI o), some (ZI (zq_or x2_39 (zq_or (zq_or r68 r80) r105))), some (ZI (x3_39 + 1)), some (ZI ((18 * o) + (6 * x3_39)))] (x3_39 + 1) dX12_namesOf_115 rfl rfl (by decide) rfl rfl ?_
              refine zr_goto (pc := 118) hV 39 dX12_namesOf_118 (by decide) ?_
              refine zr_sub (pc := 39) hV [some (ZR 0), some (ZI o), some (ZI (zq_or x2_39 (zq_or (zq_or r68 r80) r105))), some (ZI (x3_39 + 1)), none] (⟨rfl, rfl, rfl, rfl, trivial⟩) ?_
              exact ih39 (zq_or x2_39 (zq_or (zq_or r68 r80) r105)) (x3_39 + 1) (by omega) (by omega) (zt_pn_st (by omega) hi39_0 ⟨by omega, by omega⟩ ⟨by omega, by omega⟩ ⟨by omega, by omega⟩ hi39_1 pr68.2.2 pr80.2.2 (by rw [pr105.2.2]; omega)).1 (zt_pn_st (by omega) hi39_0 ⟨by omega, by omega⟩ ⟨by omega, by omega⟩ ⟨by omega, by omega⟩ hi39_1 pr68.2.2 pr80.2.2 (by rw [pr105.2.2]; omega)).2 (by omega) (by omega)
      exact L39 (3 - (0 : Int) + 1 : Int).toNat 8 0 (by omega) (by omega) ⟨by decide, by decide⟩ ⟨fun h => absurd h (by decide), fun h => absurd h (zt_pn_0 σ o)⟩ (by omega) (by omega)
