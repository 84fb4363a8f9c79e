set_option maxHeartbeats 800000 in
theorem c_X12_value2 {σ : zq_S} (hσ : zx_T σ) (q0 : σ 0 36 = 1 → 1 ≤ σ 0 37) (q1 : zq_hid (σ 0 36 = 1 → zv_c (σ 21) (σ 23) (σ 24) (σ 0 37))) : zq_C zx_w yX12_value cX12_value 2 (some .int) 1 22 41 41 [ZR 0] σ (zq_pi (fun r τ => zx_T τ ∧ (∀ a i : Int, (a ≠ 37) → τ a i = σ a i) ∧ (True) ∧ zq_hid ((σ 0 36 ≠ 1 → r = -2) ∧ (σ 0 36 = 1 → zv_o (zv_e (σ 21) (σ 22) (σ 23) (σ 24) (σ 15) (zx_p2 (σ 0 0) - 1)) (σ 0 37) (τ 37) ∧ r = τ 37 (σ 0 37 - 1))))) := by
  refine zq_C_of (by decide) (Nat.le_refl _) (Nat.le_of_ble_eq_true rfl) [some (ZR 0), none] rfl (fun V hV => ?_)
  have z37 := zx_g37 hσ
  show V 0 [some (ZR 0), none] [] 41 σ
  refine zr_aload_n (pc := 0) hV dX12_value_0 rfl rfl ?_
  refine zr_getI (pc := 1) hV 36 dX12_value_1 fX12_160 rfl rfl rfl (by decide) ?_
  have t1 := zx_g36 hσ
  refine zr_if_ne (pc := 4) hV 10 dX12_value_4 (by decide) (by omega) (fun c2 => ?_) (fun c2 => ?_)
  · show V 10 [some (ZR 0), none] [] 41 σ
    refine zr_iconst (pc := 10) hV 0 dX12_value_10 rfl ?_
    refine zr_istore_n (pc := 11) hV [some (ZR 0), some (ZI 0)] dX12_value_11 rfl (by decide) rfl rfl ?_
    have L12 : ∀ (fuel : Nat) (x1_12 : Int) (σ_12 : zq_S), (0 ≤ x1_12 ∧ x1_12 ≤ 39) → (zx_T σ_12) → (∀ a i : Int, (a ≠ 37) → σ_12 a i = σ a i) → (zq_hid (zv_o (zv_e (σ 21) (σ 22) (σ 23) (σ 24) (σ 15) (zx_p2 (σ 0 0) - 1)) x1_12 (σ_12 37))) → (x1_12 ≤ σ 0 37) → 39 - x1_12 < (fuel : Int) → V 12 [some (ZR 0), some (ZI x1_12)] [] 41 σ_12 := by
      intro fuel
      induction fuel with
      | zero =>
        intro x1_12 σ_12 hx1_12 hσ_12 hFσ_12 hi12_0 hi12_1 hm12
        exfalso; omega
      | succ fuel ih =>
        intro x1_12 σ_12 hx1_12 hσ_12 hFσ_12 hi12_0 hi12_1 hm12
        have ih12 := ih
        show V 12 [some (ZR 0), some (ZI x1_12)] [] 41 σ_12
        refine zr_iload_n (pc := 12) hV dX12_value_12 rfl rfl ?_
        refine zr_aload_n (pc := 13) hV dX12_value_13 rfl rfl ?_
        refine zr_getI (pc := 14) hV 37 dX12_value_14 fX12_422 rfl rfl rfl (by decide) ?_
        have t3 := zx_g37 hσ_12
        have t4 : σ_12 0 37 = σ 0 37 := hFσ_12 _ _ (by omega)
        refine zr_icmp_ge (pc := 17) hV 110 dX12_value_17 (by decide) (by omega) (by omega) (fun c5 => ?_) (fun c5 => ?_)
        · show V 110 [some (ZR 0), some (ZI x1_12)] [] 41 σ_12
          refine zr_aload_n (pc := 110) hV dX12_value_110 rfl rfl ?_
          refine zr_getR (pc := 111) hV 60 37 dX12_value_111 fX12_135 rfl rfl rfl (by decide) (zx_g60 hσ_12) (by omega) ?_
          refine zr_aload_n (pc := 114) hV dX12_value_114 rfl rfl ?_
          refine zr_getI (pc := 115) hV 37 dX12_value_115 fX12_422 rfl rfl rfl (by decide) ?_
          have t6 := zx_g37 hσ_12
          have t7 : σ_12 0 37 = σ 0 37 := hFσ_12 _ _ (by omega)
          refine zr_iconst (pc := 118) hV 1 dX12_value_118 rfl ?_
          refine zr_isub (pc := 119) hV dX12_value_119 ?_
          refine zr_iald (pc := 120) hV dX12_value_120 rfl (by decide) rfl (by omega) ?_
          have t8 := zx_ga37 hσ_12 ((σ_12 0 37) - 1)
          exact zr_iret (pc := 121) hV dX12_value_121 rfl rfl ⟨_, rfl, (by omega), hσ_12, hFσ_12, trivial, (show (σ 0 36 ≠ 1 → (σ_12 37 ((σ_12 0 37) - 1)) = -2) ∧ (σ 0 36 = 1 → zv_o (zv_e (σ 21) (σ 22) (σ 23) (σ 24) (σ 15) (zx_p2 (σ 0 0) - 1)) (σ 0 37) (σ_12 37) ∧ (σ_12 37 ((σ_12 0 37) - 1)) = σ_12 37 (σ 0 37 - 1)) from ⟨fun h => absurd (by omega) h, fun _ => ⟨by have h := hi12_0; unfold zq_hid at h; rw [show σ 0 37 = x1_12 by omega]; exact h, by rw [show σ_12 0 37 = σ 0 37 by omega]⟩⟩)⟩
        · show V 20 [some (ZR 0), some (ZI x1_12)] [] 41 σ_12
          refine zr_aload_n (pc := 20) hV dX12_value_20 rfl rfl ?_
          refine zr_getR (pc := 21) hV 60 37 dX12_value_21 fX12_135 rfl rfl rfl (by decide) (zx_g60 hσ_12) (by omega) ?_
          refine zr_iload_n (pc := 24) hV dX12_value_24 rfl rfl ?_
          refine zr_aload_n (pc := 25) hV dX12_value_25 rfl rfl ?_
          refine zr_getR (pc := 26) hV 38 21 dX12_value_26 fX12_87 rfl rfl rfl (by decide) (zx_g38 hσ_12) (by omega) ?_
          refine zr_iload_n (pc := 29) hV dX12_value_29 rfl rfl ?_
          refine zr_iald (pc := 30) hV dX12_value_30 rfl (by decide) rfl (by omega) ?_
          have t9 := zx_ga21 hσ_12 x1_12
          have t10 : σ_12 21 x1_12 = σ 21 x1_12 := hFσ_12 _ _ (by omega)
          refine zr_if_ne (pc := 31) hV 48 dX12_value_31 (by decide) (by omega) (fun c11 => ?_) (fun c11 => ?_)
          · show V 48 [some (ZR 0), some (ZI x1_12)] [ZI x1_12, ZR 37] 41 σ_12
            refine zr_aload_n (pc := 48) hV dX12_value_48 rfl rfl ?_
            refine zr_getR (pc := 49) hV 38 21 dX12_value_49 fX12_87 rfl rfl rfl (by decide) (zx_g38 hσ_12) (by omega) ?_
            refine zr_iload_n (pc := 52) hV dX12_value_52 rfl rfl ?_
            refine zr_iald (pc := 53) hV dX12_value_53 rfl (by decide) rfl (by omega) ?_
            have t12 := zx_ga21 hσ_12 x1_12
            have t13 : σ_12 21 x1_12 = σ 21 x1_12 := hFσ_12 _ _ (by omega)
            refine zr_iconst (pc := 54) hV 1 dX12_value_54 rfl ?_
            refine zr_icmp_ne (pc := 55) hV 67 dX12_value_55 (by decide) (by omega) ⟨by decide, by decide⟩ (fun c14 => ?_) (fun c14 => ?_)
            · show V 67 [some (ZR 0), some (ZI x1_12)] [ZI x1_12, ZR 37] 41 σ_12
              refine zr_aload_n (pc := 67) hV dX12_value_67 rfl rfl ?_
              refine zr_getR (pc := 68) hV 39 22 dX12_value_68 fX12_90 rfl rfl rfl (by decide) (zx_g39 hσ_12) (by omega) ?_
              refine zr_iload_n (pc := 71) hV dX12_value_71 rfl rfl ?_
              refine zr_iald (pc := 72) hV dX12_value_72 rfl (by decide) rfl (by omega) ?_
              have t15 := zx_ga22 hσ_12 x1_12
              have t16 : σ_12 22 x1_12 = σ 22 x1_12 := hFσ_12 _ _ (by omega)
              refine zr_aload_n (pc := 73) hV dX12_value_73 rfl rfl ?_
              refine zr_getR (pc := 74) hV 60 37 dX12_value_74 fX12_135 rfl rfl rfl (by decide) (zx_g60 hσ_12) (by omega) ?_
              refine zr_aload_n (pc := 77) hV dX12_value_77 rfl rfl ?_
              refine zr_getR (pc := 78) hV 40 23 dX12_value_78 fX12_93 rfl rfl rfl (by decide) (zx_g40 hσ_12) (by omega) ?_
              refine zr_iload_n (pc := 81) hV dX12_value_81 rfl rfl ?_
              refine zr_iald (pc := 82) hV dX12_value_82 rfl (by decide) rfl (by omega) ?_
              have t17 := zx_ga23 hσ_12 x1_12
              have t18 : σ_12 23 x1_12 = σ 23 x1_12 := hFσ_12 _ _ (by omega)
              refine zr_iald (pc := 83) hV dX12_value_83 rfl (by decide) rfl (by omega) ?_
              have t19 := zx_ga37 hσ_12 (σ_12 23 x1_12)
              refine zr_aload_n (pc := 84) hV dX12_value_84 rfl rfl ?_
              refine zr_getR (pc := 85) hV 60 37 dX12_value_85 fX12_135 rfl rfl rfl (by decide) (zx_g60 hσ_12) (by omega) ?_
              refine zr_aload_n (pc := 88) hV dX12_value_88 rfl rfl ?_
              refine zr_getR (pc := 89) hV 41 24 dX12_value_89 fX12_96 rfl rfl rfl (by decide) (zx_g41 hσ_12) (by omega) ?_
              refine zr_iload_n (pc := 92) hV dX12_value_92 rfl rfl ?_
              refine zr_iald (pc := 93) hV dX12_value_93 rfl (by decide) rfl (by omega) ?_
              have t20 := zx_ga24 hσ_12 x1_12
              have t21 : σ_12 24 x1_12 = σ 24 x1_12 := hFσ_12 _ _ (by omega)
              refine zr_iald (pc := 94) hV dX12_value_94 rfl (by decide) rfl (by omega) ?_
              have t22 := zx_ga37 hσ_12 (σ_12 24 x1_12)
              have e21 : σ_12 21 x1_12 = σ 21 x1_12 := hFσ_12 21 x1_12 (by omega)
              have z21 := zx_ga21 hσ x1_12
              have ch := q1 (by omega) x1_12 (by omega) (by omega) (by omega)
              have e23 : σ_12 23 x1_12 = σ 23 x1_12 := hFσ_12 23 x1_12 (by omega)
              have e24 : σ_12 24 x1_12 = σ 24 x1_12 := hFσ_12 24 x1_12 (by omega)
              have w1 := (hi12_0 (σ_12 23 x1_12) (by omega) (by omega)).2
              have w2 := (hi12_0 (σ_12 24 x1_12) (by omega) (by omega)).2
              refine zr_callSp (pc := 95) hV [ZI (σ_12 22 x1_12), ZI (σ_12 37 (σ_12 23 x1_12)), ZI (σ_12 37 (σ_12 24 x1_12))] (st := [ZI x1_12, ZR 37]) (c_X12_reckon2 (σ := σ_12) (σ_12 22 x1_12) (σ_12 37 (σ_12 23 x1_12)) (σ_12 37 (σ_12 24 x1_12)) (by omega) (by omega) (by omega)) dX12_value_95 mX12_304 (by decide) (Nat.le_of_ble_eq_true rfl) (Nat.le_refl _) (fun r95 hr95 pr95 => ?_)
              refine zr_aload_n (pc := 98) hV dX12_value_98 rfl rfl ?_
              refine zr_callVp (pc := 99) hV [] (st := [ZI r95, ZI x1_12, ZR 37]) (c_X12_mask2 (σ := σ_12) hσ_12 ) dX12_value_99 mX12_346 rfl (by decide) (by decide) (Nat.le_of_ble_eq_true rfl) (Nat.le_refl _) (fun r99 hr99 pr99 => ?_)
              have t23 := zx_g0 hσ_12
              have t24 : σ_12 0 0 = σ 0 0 := hFσ_12 _ _ (by omega)
              refine zr_iand (pc := 102) hV dX12_value_102 ?_
              have t25 := zq_and_nnR (x := r95) (y := r99) (by omega)
              show V 103 [some (ZR 0), some (ZI x1_12)] [ZI (zq_and r95 r99), ZI x1_12, ZR 37] 41 σ_12
              refine zr_iast (pc := 103) hV dX12_value_103 rfl (by decide) rfl (by omega) (fun σ103 eσ103 => ?_)
              have hσ103 : zx_T σ103 := zx_ua37 eσ103 hσ_12 (by omega)
              have hFσ103 : ∀ a i : Int, (a ≠ 37) → σ103 a i = σ a i := fun a i h => by rw [eσ103, zq_up_ne (fun q => h q.1)]; exact hFσ_12 a i h
              refine zr_iinc (pc := 104) hV [some (ZR 0), some (ZI (x1_12 + 1))] (x1_12 + 1) dX12_value_104 rfl rfl (by decide) rfl rfl ?_
              refine zr_goto (pc := 107) hV 12 dX12_value_107 (by decide) ?_
              exact ih12 (x1_12 + 1) σ103 (by omega) hσ103 hFσ103 (zv_o_s (zv_lo_e (fun j => zx_ga21 hσ j) (q1 (by omega))) hi12_0 (by omega) (by omega) (v := σ103 37 x1_12) (by rw [eσ103, zq_up_same]; unfold zv_e; first | (rw [if_pos (by omega), hFσ_12 15 _ (by omega), hFσ_12 22 _ (by omega)]) | (rw [if_neg (by omega), if_pos (by omega), hFσ_12 22 _ (by omega)]) | (rw [if_neg (by omega), if_neg (by omega), ← hFσ_12 22 x1_12 (by omega), ← hFσ_12 23 x1_12 (by omega), ← hFσ_12 24 x1_12 (by omega), ← pr95, ← hFσ_12 0 0 (by omega), show zx_p2 (σ_12 0 0) - 1 = r99 by omega])) (by rw [eσ103, zq_up_same]; omega) (fun j => by rw [eσ103]; by_cases hc : j = x1_12; (rw [if_pos hc, hc, zq_up_same]); (rw [if_neg hc, zq_up_ne (by omega)]))) (by omega) (by omega)
            · show V 58 [some (ZR 0), some (ZI x1_12)] [ZI x1_12, ZR 37] 41 σ_12
              refine zr_aload_n (pc := 58) hV dX12_value_58 rfl rfl ?_
              refine zr_getR (pc := 59) hV 39 22 dX12_value_59 fX12_90 rfl rfl rfl (by decide) (zx_g39 hσ_12) (by omega) ?_
              refine zr_iload_n (pc := 62) hV dX12_value_62 rfl rfl ?_
              refine zr_iald (pc := 63) hV dX12_value_63 rfl (by decide) rfl (by omega) ?_
              have t26 := zx_ga22 hσ_12 x1_12
              have t27 : σ_12 22 x1_12 = σ 22 x1_12 := hFσ_12 _ _ (by omega)
              refine zr_goto (pc := 64) hV 103 dX12_value_64 (by decide) ?_
              show V 103 [some (ZR 0), some (ZI x1_12)] [ZI (σ_12 22 x1_12), ZI x1_12, ZR 37] 41 σ_12
              refine zr_iast (pc := 103) hV dX12_value_103 rfl (by decide) rfl (by omega) (fun σ103 eσ103 => ?_)
              have hσ103 : zx_T σ103 := zx_ua37 eσ103 hσ_12 (by omega)
              have hFσ103 : ∀ a i : Int, (a ≠ 37) → σ103 a i = σ a i := fun a i h => by rw [eσ103, zq_up_ne (fun q => h q.1)]; exact hFσ_12 a i h
              refine zr_iinc (pc := 104) hV [some (ZR 0), some (ZI (x1_12 + 1))] (x1_12 + 1) dX12_value_104 rfl rfl (by decide) rfl rfl ?_
              refine zr_goto (pc := 107) hV 12 dX12_value_107 (by decide) ?_
              exact ih12 (x1_12 + 1) σ103 (by omega) hσ103 hFσ103 (zv_o_s (zv_lo_e (fun j => zx_ga21 hσ j) (q1 (by omega))) hi12_0 (by omega) (by omega) (v := σ103 37 x1_12) (by rw [eσ103, zq_up_same]; unfold zv_e; first | (rw [if_pos (by omega), hFσ_12 15 _ (by omega), hFσ_12 22 _ (by omega)]) | (rw [if_neg (by omega), if_pos (by omega), hFσ_12 22 _ (by omega)]) | (rw [if_neg (by omega), if_neg (by omega), ← hFσ_12 22 x1_12 (by omega), ← hFσ_12 23 x1_12 (by omega), ← hFσ_12 24 x1_12 (by omega), ← pr95, ← hFσ_12 0 0 (by omega), show zx_p2 (σ_12 0 0) - 1 = r99 by omega])) (by rw [eσ103, zq_up_same]; omega) (fun j => by rw [eσ103]; by_cases hc : j = x1_12; (rw [if_pos hc, hc, zq_up_same]); (rw [if_neg hc, zq_up_ne (by omega)]))) (by omega) (by omega)
          · show V 34 [some (ZR 0), some (ZI x1_12)] [ZI x1_12, ZR 37] 41 σ_12
            refine zr_aload_n (pc := 34) hV dX12_value_34 rfl rfl ?_
            refine zr_getR (pc := 35) hV 24 15 dX12_value_35 fX12_62 rfl rfl rfl (by decide) (zx_g24 hσ_12) (by omega) ?_
            refine zr_aload_n (pc := 38) hV dX12_value_38 rfl rfl ?_
            refine zr_getR (pc := 39) hV 39 22 dX12_value_39 fX12_90 rfl rfl rfl (by decide) (zx_g39 hσ_12) (by omega) ?_
            refine zr_iload_n (pc := 42) hV dX12_value_42 rfl rfl ?_
            refine zr_iald (pc := 43) hV dX12_value_43 rfl (by decide) rfl (by omega) ?_
            have t28 := zx_ga22 hσ_12 x1_12
            have t29 : σ_12 22 x1_12 = σ 22 x1_12 := hFσ_12 _ _ (by omega)
            refine zr_iald (pc := 44) hV dX12_value_44 rfl (by decide) rfl (by omega) ?_
            have t30 := zx_stW hσ_12 (σ_12 22 x1_12) (by omega)
            have t31 : σ_12 15 (σ_12 22 x1_12) = σ 15 (σ_12 22 x1_12) := hFσ_12 _ _ (by omega)
            refine zr_goto (pc := 45) hV 103 dX12_value_45 (by decide) ?_
            show V 103 [some (ZR 0), some (ZI x1_12)] [ZI (σ_12 15 (σ_12 22 x1_12)), ZI x1_12, ZR 37] 41 σ_12
            refine zr_iast (pc := 103) hV dX12_value_103 rfl (by decide) rfl (by omega) (fun σ103 eσ103 => ?_)
            have hσ103 : zx_T σ103 := zx_ua37 eσ103 hσ_12 (by omega)
            have hFσ103 : ∀ a i : Int, (a ≠ 37) → σ103 a i = σ a i := fun a i h => by rw [eσ103, zq_up_ne (fun q => h q.1)]; exact hFσ_12 a i h
            refine zr_iinc (pc := 104) hV [some (ZR 0), some (ZI (x1_12 + 1))] (x1_12 + 1) dX12_value_104 rfl rfl (by decide) rfl rfl ?_
            refine zr_goto (pc := 107) hV 12 dX12_value_107 (by decide) ?_
            exact ih12 (x1_12 + 1) σ103 (by omega) hσ103 hFσ103 (zv_o_s (zv_lo_e (fun j => zx_ga21 hσ j) (q1 (by omega))) hi12_0 (by omega) (by omega) (v := σ103 37 x1_12) (by rw [eσ103, zq_up_same]; unfold zv_e; first | (rw [if_pos (by omega), hFσ_12 15 _ (by omega), hFσ_12 22 _ (by omega)]) | (rw [if_neg (by omega), if_pos (by omega), hFσ_12 22 _ (by omega)]) | (rw [if_neg (by omega), if_neg (by omega), ← hFσ_12 22 x1_12 (by omega), ← hFσ_12 23 x1_12 (by omega), ← hFσ_12 24 x1_12 (by omega), ← pr95, ← hFσ_12 0 0 (by omega), show zx_p2 (σ_12 0 0) - 1 = r99 by omega])) (by rw [eσ103, zq_up_same]; omega) (fun j => by rw [eσ103]; by_cases hc : j = x1_12; (rw [if_pos hc, hc, zq_up_same]); (rw [if_neg hc, zq_up_ne (by omega)]))) (by omega) (by omega)
    exact L12 (39 - (0 : Int) + 1 : Int).toNat 0 σ (by omega) hσ (fun a i _ => rfl) zv_o_0 (by omega) (by omega)
  · show V 7 [some (ZR 0), none] [] 41 σ
    refine zr_bipush (pc := 7) hV (-2) dX12_value_7 (by decide) ?_
    exact zr_iret (pc := 9) hV dX12_value_9 rfl rfl ⟨_, rfl, ⟨by decide, by decide⟩, hσ, (fun a i _ => rfl), trivial, (show (σ 0 36 ≠ 1 → ((-2) : Int) = -2) ∧ (σ 0 36 = 1 → zv_o (zv_e (σ 21) (σ 22) (σ 23) (σ 24) (σ 15) (zx_p2 (σ 0 0) - 1)) (σ 0 37) (σ 37) ∧ ((-2) : Int) = σ 37 (σ 0 37 - 1)) from ⟨fun _ => rfl, fun h => absurd h (by omega)⟩)⟩
