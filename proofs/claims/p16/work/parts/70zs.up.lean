set_option maxHeartbeats 800000 in
theorem c_X9_bestPair_2 {σ : zq_S} (hσ : zc_T σ) (end_ : Int) (q0 : 0 ≤ end_ ∧ end_ ≤ 64) (q1 : zq_hid (∀ i, 0 ≤ i → i < 64 → 0 ≤ σ 139 i ∧ σ 139 i ≤ 4095)) (q2 : zq_hid (∀ i, 0 ≤ i → i < σ 3 3 → 0 ≤ σ (σ 10 i) 11 ∧ σ (σ 10 i) 11 ≤ 1000)) : zq_C zc_w yX9_bestPair cX9_bestPair 8 (some .int) 5 111 284 284 [ZR 3, ZR 139, ZI end_] σ (zq_pp σ (fun r => zq_hid (∀ R, zk_Rc σ R → r = (zk_all (zk_Pc σ end_) R (σ 3 3) (σ 3 3)).1))) := by
  refine zq_C_of (by decide) (Nat.le_refl _) (Nat.le_of_ble_eq_true rfl) [some (ZR 3), some (ZR 139), some (ZI end_), none, none, none, none, none] rfl (fun V hV => ?_)
  have z33 := zc_g3_3 hσ zc_s3
  show V 0 [some (ZR 3), some (ZR 139), some (ZI end_), none, none, none, none, none] [] 284 σ
  refine zr_bipush (pc := 0) hV (-4) dX9_bestPair_0 (by decide) ?_
  refine zr_istore_n (pc := 2) hV [some (ZR 3), some (ZR 139), some (ZI end_), some (ZI (-4)), none, none, none, none] dX9_bestPair_2 rfl (by decide) rfl rfl ?_
  refine zr_iconst (pc := 3) hV 0 dX9_bestPair_3 rfl ?_
  refine zr_istore (pc := 4) hV [some (ZR 3), some (ZR 139), some (ZI end_), some (ZI (-4)), some (ZI 0), none, none, none] dX9_bestPair_4 (by decide) rfl rfl ?_
  refine zr_iconst (pc := 6) hV 0 dX9_bestPair_6 rfl ?_
  refine zr_istore (pc := 7) hV [some (ZR 3), some (ZR 139), some (ZI end_), some (ZI (-4)), some (ZI 0), some (ZI 0), none, none] dX9_bestPair_7 (by decide) rfl rfl ?_
  have L9 : ∀ (fuel : Nat) (x3_9 : Int) (x4_9 : Int) (x5_9 : Int), ((-4) ≤ x3_9 ∧ x3_9 ≤ 399) → (0 ≤ x4_9 ∧ x4_9 ≤ 64) → (0 ≤ x5_9 ∧ x5_9 ≤ 20) → (zq_hid (∀ R, zk_Rc σ R → (x3_9, x4_9) = zk_all (zk_Pc σ end_) R (σ 3 3) x5_9)) → (x5_9 ≤ σ 3 3) → 20 - x5_9 < (fuel : Int) → V 9 [some (ZR 3), some (ZR 139), some (ZI end_), some (ZI x3_9), some (ZI x4_9), some (ZI x5_9), none, none] [] 284 σ := by
    intro fuel
    induction fuel with
    | zero =>
      intro x3_9 x4_9 x5_9 hx3_9 hx4_9 hx5_9 hi9_0 hi9_1 hm9
      exfalso; omega
    | succ fuel ih =>
      intro x3_9 x4_9 x5_9 hx3_9 hx4_9 hx5_9 hi9_0 hi9_1 hm9
      have ih9 := ih
      show V 9 [some (ZR 3), some (ZR 139), some (ZI end_), some (ZI x3_9), some (ZI x4_9), some (ZI x5_9), none, none] [] 284 σ
      refine zr_iload (pc := 9) hV dX9_bestPair_9 rfl ?_
      refine zr_aload_n (pc := 11) hV dX9_bestPair_11 rfl rfl ?_
      refine zr_getI (pc := 12) hV 3 dX9_bestPair_12 fX9_36 rfl rfl (zc_k3 zc_s3) (zc_pos zc_s3 rfl) ?_
      have t1 := zc_g3_3 hσ zc_s3
      refine zr_icmp_ge (pc := 15) hV 95 dX9_bestPair_15 (by decide) (by omega) (by omega) (fun c2 => ?_) (fun c2 => ?_)
      · show V 95 [some (ZR 3), some (ZR 139), some (ZI end_), some (ZI x3_9), some (ZI x4_9), some (ZI x5_9), none, none] [] 284 σ
        refine zr_iload_n (pc := 95) hV dX9_bestPair_95 rfl rfl ?_
        exact zr_iret (pc := 96) hV dX9_bestPair_96 rfl rfl ⟨rfl, _, rfl, (by omega), (fun R hR => by have z := hi9_0 R hR; rw [show x5_9 = σ 3 3 by omega] at z; rw [← z])⟩
      · show V 18 [some (ZR 3), some (ZR 139), some (ZI end_), some (ZI x3_9), some (ZI x4_9), some (ZI x5_9), none, none] [] 284 σ
        refine zr_iconst (pc := 18) hV 0 dX9_bestPair_18 rfl ?_
        refine zr_istore (pc := 19) hV [some (ZR 3), some (ZR 139), some (ZI end_), some (ZI x3_9), some (ZI x4_9), some (ZI x5_9), some (ZI 0), none] dX9_bestPair_19 (by decide) rfl rfl ?_
        have L21 : ∀ (fuel : Nat) (x3_21 : Int) (x4_21 : Int) (x6_21 : Int), ((-4) ≤ x3_21 ∧ x3_21 ≤ 399) → (0 ≤ x4_21 ∧ x4_21 ≤ 64) → (0 ≤ x6_21 ∧ x6_21 ≤ 20) → (zq_hid (∀ R, zk_Rc σ R → (x3_21, x4_21) = zk_rw (zk_Pc σ end_) R x5_9 (zk_all (zk_Pc σ end_) R (σ 3 3) x5_9) x6_21)) → (x6_21 ≤ σ 3 3) → 20 - x6_21 < (fuel : Int) → V 21 [some (ZR 3), some (ZR 139), some (ZI end_), some (ZI x3_21), some (ZI x4_21), some (ZI x5_9), some (ZI x6_21), none] [] 284 σ := by
          intro fuel
          induction fuel with
          | zero =>
            intro x3_21 x4_21 x6_21 hx3_21 hx4_21 hx6_21 hi21_0 hi21_1 hm21
            exfalso; omega
          | succ fuel ih =>
            intro x3_21 x4_21 x6_21 hx3_21 hx4_21 hx6_21 hi21_0 hi21_1 hm21
            have ih21 := ih
            show V 21 [some (ZR 3), some (ZR 139), some (ZI end_), some (ZI x3_21), some (ZI x4_21), some (ZI x5_9), some (ZI x6_21), none] [] 284 σ
            refine zr_iload (pc := 21) hV dX9_bestPair_21 rfl ?_
            refine zr_aload_n (pc := 23) hV dX9_bestPair_23 rfl rfl ?_
            refine zr_getI (pc := 24) hV 3 dX9_bestPair_24 fX9_36 rfl rfl (zc_k3 zc_s3) (zc_pos zc_s3 rfl) ?_
            have t3 := zc_g3_3 hσ zc_s3
            refine zr_icmp_ge (pc := 27) hV 89 dX9_bestPair_27 (by decide) (by omega) (by omega) (fun c4 => ?_) (fun c4 => ?_)
            · show V 89 [some (ZR 3), some (ZR 139), some (ZI end_), some (ZI x3_21), some (ZI x4_21), some (ZI x5_9), some (ZI x6_21), none] [] 284 σ
              refine zr_iinc (pc := 89) hV [some (ZR 3), some (ZR 139), some (ZI end_), some (ZI x3_21), some (ZI x4_21), some (ZI (x5_9 + 1)), some (ZI x6_21), none] (x5_9 + 1) dX9_bestPair_89 rfl rfl (by decide) rfl rfl ?_
              refine zr_goto (pc := 92) hV 9 dX9_bestPair_92 (by decide) ?_
              have t5 := zc_g3_3 hσ zc_s3
              have t6 := zc_g3_3 hσ zc_s3
              refine zr_sub (pc := 9) hV [some (ZR 3), some (ZR 139), some (ZI end_), some (ZI x3_21), some (ZI x4_21), some (ZI (x5_9 + 1)), none, none] (⟨rfl, rfl, rfl, rfl, rfl, rfl, trivial⟩) ?_
              exact ih9 x3_21 x4_21 (x5_9 + 1) (by omega) (by omega) (by omega) (fun R hR => by have z := hi21_0 R hR; rw [show x6_21 = σ 3 3 by omega] at z; rw [zk_all_s (by omega)]; exact z) (by omega) (by omega)
            · show V 30 [some (ZR 3), some (ZR 139), some (ZI end_), some (ZI x3_21), some (ZI x4_21), some (ZI x5_9), some (ZI x6_21), none] [] 284 σ
              refine zr_aload_n (pc := 30) hV dX9_bestPair_30 rfl rfl ?_
              refine zr_aload_n (pc := 31) hV dX9_bestPair_31 rfl rfl ?_
              refine zr_iload (pc := 32) hV dX9_bestPair_32 rfl ?_
              refine zr_iload (pc := 34) hV dX9_bestPair_34 rfl ?_
              refine zr_iload_n (pc := 36) hV dX9_bestPair_36 rfl rfl ?_
              have t7 := zc_g3_3 hσ zc_s3
              have t8 := zc_g3_3 hσ zc_s3
              refine zr_callVp (pc := 37) hV [ZR 139, ZI x5_9, ZI x6_21, ZI end_] (st := []) (c_X9_countPairs_2 (σ := σ) hσ x5_9 x6_21 end_ (by omega) (by omega) (by omega) (by omega) (by omega) q1) dX9_bestPair_37 mX9_110 (zc_k3 zc_s3) (zc_pos zc_s3 rfl) (by decide) (Nat.le_of_ble_eq_true rfl) (Nat.le_refl _) (fun r37 hr37 pr37 => ?_)
              refine zr_istore (pc := 40) hV [some (ZR 3), some (ZR 139), some (ZI end_), some (ZI x3_21), some (ZI x4_21), some (ZI x5_9), some (ZI x6_21), some (ZI r37)] dX9_bestPair_40 (by decide) rfl rfl ?_
              refine zr_iload (pc := 42) hV dX9_bestPair_42 rfl ?_
              refine zr_iload (pc := 44) hV dX9_bestPair_44 rfl ?_
              refine zr_icmp_le (pc := 46) hV 83 dX9_bestPair_46 (by decide) (by omega) (by omega) (fun c9 => ?_) (fun c9 => ?_)
              · show V 83 [some (ZR 3), some (ZR 139), some (ZI end_), some (ZI x3_21), some (ZI x4_21), some (ZI x5_9), some (ZI x6_21), some (ZI r37)] [] 284 σ
                refine zr_iinc (pc := 83) hV [some (ZR 3), some (ZR 139), some (ZI end_), some (ZI x3_21), some (ZI x4_21), some (ZI x5_9), some (ZI (x6_21 + 1)), some (ZI r37)] (x6_21 + 1) dX9_bestPair_83 rfl rfl (by decide) rfl rfl ?_
                refine zr_goto (pc := 86) hV 21 dX9_bestPair_86 (by decide) ?_
                have t10 := zc_g3_3 hσ zc_s3
                have t11 := zc_g3_3 hσ zc_s3
                refine zr_sub (pc := 21) hV [some (ZR 3), some (ZR 139), some (ZI end_), some (ZI x3_21), some (ZI x4_21), some (ZI x5_9), some (ZI (x6_21 + 1)), none] (⟨rfl, rfl, rfl, rfl, rfl, rfl, rfl, trivial⟩) ?_
                exact ih21 x3_21 x4_21 (x6_21 + 1) (by omega) (by omega) (by omega) (fun R hR => by have z := hi21_0 R hR; have y2 : (zk_rw (zk_Pc σ end_) R x5_9 (zk_all (zk_Pc σ end_) R (σ 3 3) x5_9) x6_21).2 = x4_21 := (by rw [← z]); rw [zk_rw_s (by omega), zk_st_n (fun q => by rw [y2] at q; have q1 : x4_21 < zk_P (fun x => zk_b (zk_c σ x5_9 x6_21 x)) end_ 0 := q.1; rw [← pr37.2] at q1; first | omega | exact absurd ((hR x5_9 x6_21 r64 (by omega) (by omega) (by omega) (by omega) rc64).mp q.2) (by omega))]; exact z) (by omega) (by omega)
              · show V 49 [some (ZR 3), some (ZR 139), some (ZI end_), some (ZI x3_21), some (ZI x4_21), some (ZI x5_9), some (ZI x6_21), some (ZI r37)] [] 284 σ
                refine zr_aload_n (pc := 49) hV dX9_bestPair_49 rfl rfl ?_
                refine zr_aload_n (pc := 50) hV dX9_bestPair_50 rfl rfl ?_
                refine zr_getR (pc := 51) hV 6 10 dX9_bestPair_51 fX9_18 rfl rfl (zc_k3 zc_s3) (zc_pos zc_s3 rfl) (zc_g3_6 hσ zc_s3) (by decide) ?_
                refine zr_iload (pc := 54) hV dX9_bestPair_54 rfl ?_
                have ga56 : zc_kd (σ 10 x5_9) = 4 := zc_ga10 hσ zc_s10 x5_9 (by omega) (by omega)
                refine zr_aald (pc := 56) hV dX9_bestPair_56 (zc_k10 zc_s10) (Or.inl rfl) (zc_pos zc_s10 rfl) rfl (by omega) (zc_pos ga56 rfl).1 ?_
                obtain ⟨o56, eo56⟩ : ∃ o, σ 10 x5_9 = o := ⟨_, rfl⟩
                rw [eo56] at ga56 ⊢
                have ko56 := ga56
                have po56 := zc_pos ko56 rfl
                show V 57 [some (ZR 3), some (ZR 139), some (ZI end_), some (ZI x3_21), some (ZI x4_21), some (ZI x5_9), some (ZI x6_21), some (ZI r37)] [ZR o56, ZR 3] 284 σ
                refine zr_aload_n (pc := 57) hV dX9_bestPair_57 rfl rfl ?_
                refine zr_getR (pc := 58) hV 6 10 dX9_bestPair_58 fX9_18 rfl rfl (zc_k3 zc_s3) (zc_pos zc_s3 rfl) (zc_g3_6 hσ zc_s3) (by decide) ?_
                refine zr_iload (pc := 61) hV dX9_bestPair_61 rfl ?_
                have ga63 : zc_kd (σ 10 x6_21) = 4 := zc_ga10 hσ zc_s10 x6_21 (by omega) (by omega)
                refine zr_aald (pc := 63) hV dX9_bestPair_63 (zc_k10 zc_s10) (Or.inl rfl) (zc_pos zc_s10 rfl) rfl (by omega) (zc_pos ga63 rfl).1 ?_
                obtain ⟨o63, eo63⟩ : ∃ o, σ 10 x6_21 = o := ⟨_, rfl⟩
                rw [eo63] at ga63 ⊢
                have ko63 := ga63
                have po63 := zc_pos ko63 rfl
                show V 64 [some (ZR 3), some (ZR 139), some (ZI end_), some (ZI x3_21), some (ZI x4_21), some (ZI x5_9), some (ZI x6_21), some (ZI r37)] [ZR o63, ZR o56, ZR 3] 284 σ
                have k56 : 0 ≤ σ o56 11 ∧ σ o56 11 ≤ 1000 := by rw [← eo56]; exact q2 x5_9 (by omega) (by omega)
                have k63 : 0 ≤ σ o63 11 ∧ σ o63 11 ≤ 1000 := by rw [← eo63]; exact q2 x6_21 (by omega) (by omega)
                have t12 := zc_g4_11 hσ ko56
                have t13 := zc_g4_11 hσ ko63
                refine zr_callVp (pc := 64) hV [ZR o56, ZR o63] (st := []) (c_X9_roomFor_2 (σ := σ) hσ o56 ko56 o63 ko63 (by omega) (by omega)) dX9_bestPair_64 mX9_114 (zc_k3 zc_s3) (zc_pos zc_s3 rfl) (by decide) (Nat.le_of_ble_eq_true rfl) (Nat.le_refl _) (fun r64 hr64 pr64 => ?_)
                have t14 := zc_g3_2 hσ zc_s3
                have rc64 : zu_rc σ (σ 10 x5_9) (σ 10 x6_21) r64 := by rw [eo56, eo63]; exact pr64.2
                refine zr_if_lt (pc := 67) hV 83 dX9_bestPair_67 (by decide) (by omega) (fun c15 => ?_) (fun c15 => ?_)
                · show V 83 [some (ZR 3), some (ZR 139), some (ZI end_), some (ZI x3_21), some (ZI x4_21), some (ZI x5_9), some (ZI x6_21), some (ZI r37)] [] 284 σ
                  refine zr_iinc (pc := 83) hV [some (ZR 3), some (ZR 139), some (ZI end_), some (ZI x3_21), some (ZI x4_21), some (ZI x5_9), some (ZI (x6_21 + 1)), some (ZI r37)] (x6_21 + 1) dX9_bestPair_83 rfl rfl (by decide) rfl rfl ?_
                  refine zr_goto (pc := 86) hV 21 dX9_bestPair_86 (by decide) ?_
                  have t16 := zc_g3_3 hσ zc_s3
                  have t17 := zc_g3_3 hσ zc_s3
                  refine zr_sub (pc := 21) hV [some (ZR 3), some (ZR 139), some (ZI end_), some (ZI x3_21), some (ZI x4_21), some (ZI x5_9), some (ZI (x6_21 + 1)), none] (⟨rfl, rfl, rfl, rfl, rfl, rfl, rfl, trivial⟩) ?_
                  exact ih21 x3_21 x4_21 (x6_21 + 1) (by omega) (by omega) (by omega) (fun R hR => by have z := hi21_0 R hR; have y2 : (zk_rw (zk_Pc σ end_) R x5_9 (zk_all (zk_Pc σ end_) R (σ 3 3) x5_9) x6_21).2 = x4_21 := (by rw [← z]); rw [zk_rw_s (by omega), zk_st_n (fun q => by rw [y2] at q; have q1 : x4_21 < zk_P (fun x => zk_b (zk_c σ x5_9 x6_21 x)) end_ 0 := q.1; rw [← pr37.2] at q1; first | omega | exact absurd ((hR x5_9 x6_21 r64 (by omega) (by omega) (by omega) (by omega) rc64).mp q.2) (by omega))]; exact z) (by omega) (by omega)
                · show V 70 [some (ZR 3), some (ZR 139), some (ZI end_), some (ZI x3_21), some (ZI x4_21), some (ZI x5_9), some (ZI x6_21), some (ZI r37)] [] 284 σ
                  refine zr_iload (pc := 70) hV dX9_bestPair_70 rfl ?_
                  refine zr_istore (pc := 72) hV [some (ZR 3), some (ZR 139), some (ZI end_), some (ZI x3_21), some (ZI r37), some (ZI x5_9), some (ZI x6_21), some (ZI r37)] dX9_bestPair_72 (by decide) rfl rfl ?_
                  refine zr_bipush (pc := 74) hV 20 dX9_bestPair_74 (by decide) ?_
                  refine zr_iload (pc := 76) hV dX9_bestPair_76 rfl ?_
                  refine zr_imul (pc := 78) hV dX9_bestPair_78 ?_
                  refine zr_iload (pc := 79) hV dX9_bestPair_79 rfl ?_
                  refine zr_iadd (pc := 81) hV dX9_bestPair_81 ?_
                  refine zr_istore_n (pc := 82) hV [some (ZR 3), some (ZR 139), some (ZI end_), some (ZI ((20 * x5_9) + x6_21)), some (ZI r37), some (ZI x5_9), some (ZI x6_21), some (ZI r37)] dX9_bestPair_82 rfl (by decide) rfl rfl ?_
                  show V 83 [some (ZR 3), some (ZR 139), some (ZI end_), some (ZI ((20 * x5_9) + x6_21)), some (ZI r37), some (ZI x5_9), some (ZI x6_21), some (ZI r37)] [] 284 σ
                  refine zr_iinc (pc := 83) hV [some (ZR 3), some (ZR 139), some (ZI end_), some (ZI ((20 * x5_9) + x6_21)), some (ZI r37), some (ZI x5_9), some (ZI (x6_21 + 1)), some (ZI r37)] (x6_21 + 1) dX9_bestPair_83 rfl rfl (by decide) rfl rfl ?_
                  refine zr_goto (pc := 86) hV 21 dX9_bestPair_86 (by decide) ?_
                  have t18 := zc_g3_3 hσ zc_s3
                  have t19 := zc_g3_3 hσ zc_s3
                  refine zr_sub (pc := 21) hV [some (ZR 3), some (ZR 139), some (ZI end_), some (ZI ((20 * x5_9) + x6_21)), some (ZI r37), some (ZI x5_9), some (ZI (x6_21 + 1)), none] (⟨rfl, rfl, rfl, rfl, rfl, rfl, rfl, trivial⟩) ?_
                  exact ih21 ((20 * x5_9) + x6_21) r37 (x6_21 + 1) (by omega) (by omega) (by omega) (fun R hR => by have z := hi21_0 R hR; have y2 : (zk_rw (zk_Pc σ end_) R x5_9 (zk_all (zk_Pc σ end_) R (σ 3 3) x5_9) x6_21).2 = x4_21 := (by rw [← z]); rw [zk_rw_s (by omega), zk_st_y ⟨by rw [y2]; show x4_21 < zk_P (fun x => zk_b (zk_c σ x5_9 x6_21 x)) end_ 0; rw [← pr37.2]; omega, (hR x5_9 x6_21 r64 (by omega) (by omega) (by omega) (by omega) rc64).mpr (by omega)⟩]; show _ = (20 * x5_9 + x6_21, zk_P (fun x => zk_b (zk_c σ x5_9 x6_21 x)) end_ 0); rw [← pr37.2]) (by omega) (by omega)
        have t20 := zc_g3_3 hσ zc_s3
        have t21 := zc_g3_3 hσ zc_s3
        exact L21 (20 - (0 : Int) + 1 : Int).toNat x3_9 x4_9 0 (by omega) (by omega) (by omega) (fun R hR => hi9_0 R hR) (by omega) (by omega)
  have t22 := zc_g3_3 hσ zc_s3
  have t23 := zc_g3_3 hσ zc_s3
  exact L9 (20 - (0 : Int) + 1 : Int).toNat (-4) 0 0 (by omega) (by omega) (by omega) (fun R _ => rfl) (by omega) (by omega)
set_option maxHeartbeats 800000 in
theorem c_X11_best_2 {σ : zq_S} (hσ : zc_T σ) (end_ : Int) (q0 : zq_in end_) (q1 : zq_hid (∀ i, 0 ≤ i → i < 64 → 0 ≤ σ 139 i ∧ σ 139 i ≤ 4095)) (q2 : zq_hid (∀ i, 0 ≤ i → i < σ 3 3 → 0 ≤ σ (σ 10 i) 11 ∧ σ (σ 10 i) 11 ≤ 1000)) (Uσ : zc_U σ) : zq_C zc_w yX11_best cX11_best 2 (some .int) 6 138 284 284 [ZR 0, ZI end_] σ (zq_pp σ (fun r => zq_hid ((¬ (0 ≤ end_ ∧ end_ ≤ 64) → r = -1) ∧ (0 ≤ end_ ∧ end_ ≤ 64 → ∀ R, zk_Rc σ R → r = (zk_all (zk_Pc σ end_) R (σ 3 3) (σ 3 3)).1)))) := by
  refine zq_C_of (by decide) (Nat.le_refl _) (Nat.le_of_ble_eq_true rfl) [some (ZR 0), some (ZI end_)] rfl (fun V hV => ?_)
  show V 0 [some (ZR 0), some (ZI end_)] [] 284 σ
  refine zr_iload_n (pc := 0) hV dX11_best_0 rfl rfl ?_
  refine zr_iconst (pc := 1) hV 0 dX11_best_1 rfl ?_
  refine zr_bipush (pc := 2) hV 64 dX11_best_2 (by decide) ?_
  refine zr_callSp (pc := 4) hV [ZI end_, ZI 0, ZI 64] (st := []) (c_X11_within (σ := σ) end_ 0 64 (by omega) (by omega) (by omega)) dX11_best_4 mX11_89 (by decide) (Nat.le_of_ble_eq_true rfl) (Nat.le_refl _) (fun r4 hr4 pr4 => ?_)
  refine zr_if_eq (pc := 7) hV 25 dX11_best_7 (by decide) (by omega) (fun c1 => ?_) (fun c1 => ?_)
  · show V 25 [some (ZR 0), some (ZI end_)] [] 284 σ
    refine zr_iconst (pc := 25) hV (-1) dX11_best_25 rfl ?_
    show V 26 [some (ZR 0), some (ZI end_)] [ZI (-1)] 284 σ
    exact zr_iret (pc := 26) hV dX11_best_26 rfl rfl ⟨rfl, _, rfl, ⟨by decide, by decide⟩, ⟨fun _ => rfl, fun h => absurd h (by omega)⟩⟩
  · show V 10 [some (ZR 0), some (ZI end_)] [] 284 σ
    refine zr_aload_n (pc := 10) hV dX11_best_10 rfl rfl ?_
    refine zr_getR (pc := 11) hV 1 3 dX11_best_11 fX11_19 rfl rfl (zc_k0 zc_s0) (zc_pos zc_s0 rfl) (zc_g0_1 hσ zc_s0) (by decide) ?_
    refine zr_aload_n (pc := 14) hV dX11_best_14 rfl rfl ?_
    refine zr_getR (pc := 15) hV 4 139 dX11_best_15 fX11_39 rfl rfl (zc_k0 zc_s0) (zc_pos zc_s0 rfl) (zc_g0_4 hσ zc_s0) (by decide) ?_
    refine zr_iload_n (pc := 18) hV dX11_best_18 rfl rfl ?_
    have t2 := zc_g3_3 hσ zc_s3
    refine zr_callVp (pc := 19) hV [ZR 139, ZI end_] (st := []) (c_X9_bestPair_2 (σ := σ) hσ end_ (by omega) q1 q2) dX11_best_19 mX11_264 (zc_k3 zc_s3) (zc_pos zc_s3 rfl) (by decide) (Nat.le_of_ble_eq_true rfl) (Nat.le_refl _) (fun r19 hr19 pr19 => ?_)
    have t3 := zc_g3_3 hσ zc_s3
    refine zr_goto (pc := 22) hV 26 dX11_best_22 (by decide) ?_
    show V 26 [some (ZR 0), some (ZI end_)] [ZI r19] 284 σ
    exact zr_iret (pc := 26) hV dX11_best_26 rfl rfl ⟨rfl, _, rfl, (by omega), ⟨fun h => absurd (by omega) h, fun _ => pr19⟩⟩
