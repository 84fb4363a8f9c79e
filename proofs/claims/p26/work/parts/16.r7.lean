set_option maxHeartbeats 800000 in
theorem c_X12_load {σ : zq_S} (hσ : zx_T σ) (sheet lane from_ place n : Int) (q0 : zq_in sheet) (q1 : zq_in lane) (q2 : zq_in from_) (q3 : zq_in place) (q4 : zq_in n) (Kσ : zx_K σ) : zq_C zx_w yX12_load cX12_load 9 (some .int) 2 49 41 41 [ZR 0, ZI sheet, ZI lane, ZI from_, ZI place, ZI n] σ (zq_pi (fun r τ => zx_T τ ∧ (∀ a i : Int, (a ≠ 14) → τ a i = σ a i) ∧ (True) ∧ zx_K τ)) := by
  refine zq_C_of (by decide) (Nat.le_refl _) (Nat.le_of_ble_eq_true rfl) [some (ZR 0), some (ZI sheet), some (ZI lane), some (ZI from_), some (ZI place), some (ZI n), none, none, none] rfl (fun V hV => ?_)
  have z2 := zx_g2 hσ
  show V 0 [some (ZR 0), some (ZI sheet), some (ZI lane), some (ZI from_), some (ZI place), some (ZI n), none, none, none] [] 41 σ
  refine zr_iload_n (pc := 0) hV dX12_load_0 rfl rfl ?_
  refine zr_iload_n (pc := 1) hV dX12_load_1 rfl rfl ?_
  refine zr_callSp (pc := 2) hV [ZI sheet, ZI lane] (st := []) (c_X12_isSheet (σ := σ) sheet lane (by omega) (by omega)) dX12_load_2 mX12_480 (by decide) (Nat.le_of_ble_eq_true rfl) (Nat.le_refl _) (fun r2 hr2 pr2 => ?_)
  refine zr_if_eq (pc := 5) hV 37 dX12_load_5 (by decide) (by omega) (fun c1 => ?_) (fun c1 => ?_)
  · show V 37 [some (ZR 0), some (ZI sheet), some (ZI lane), some (ZI from_), some (ZI place), some (ZI n), none, none, none] [] 41 σ
    refine zr_iconst (pc := 37) hV (-1) dX12_load_37 rfl ?_
    exact zr_iret (pc := 38) hV dX12_load_38 rfl rfl ⟨_, rfl, ⟨by decide, by decide⟩, hσ, (fun a i _ => rfl), trivial, Kσ⟩
  · show V 8 [some (ZR 0), some (ZI sheet), some (ZI lane), some (ZI from_), some (ZI place), some (ZI n), none, none, none] [] 41 σ
    refine zr_iload (pc := 8) hV dX12_load_8 rfl ?_
    refine zr_i2l (pc := 10) hV dX12_load_10 (by omega) ?_
    refine zr_lconst (pc := 11) hV 0 dX12_load_11 (by decide) ?_
    refine zr_ldc2 (pc := 12) (v := 30) hV 30 dX12_load_12 kX12_491 (by decide) ?_
    refine zr_callSp (pc := 15) hV [ZL n, ZL 0, ZL 30] (st := []) (c_X12_in (σ := σ) n 0 30 (by omega) (by omega) (by omega)) dX12_load_15 mX12_170 (by decide) (Nat.le_of_ble_eq_true rfl) (Nat.le_refl _) (fun r15 hr15 pr15 => ?_)
    refine zr_if_eq (pc := 18) hV 37 dX12_load_18 (by decide) (by omega) (fun c2 => ?_) (fun c2 => ?_)
    · show V 37 [some (ZR 0), some (ZI sheet), some (ZI lane), some (ZI from_), some (ZI place), some (ZI n), none, none, none] [] 41 σ
      refine zr_iconst (pc := 37) hV (-1) dX12_load_37 rfl ?_
      exact zr_iret (pc := 38) hV dX12_load_38 rfl rfl ⟨_, rfl, ⟨by decide, by decide⟩, hσ, (fun a i _ => rfl), trivial, Kσ⟩
    · show V 21 [some (ZR 0), some (ZI sheet), some (ZI lane), some (ZI from_), some (ZI place), some (ZI n), none, none, none] [] 41 σ
      refine zr_iload (pc := 21) hV dX12_load_21 rfl ?_
      refine zr_i2l (pc := 23) hV dX12_load_23 (by omega) ?_
      refine zr_lconst (pc := 24) hV 0 dX12_load_24 (by decide) ?_
      refine zr_bipush (pc := 25) hV 64 dX12_load_25 (by decide) ?_
      refine zr_iload (pc := 27) hV dX12_load_27 rfl ?_
      refine zr_isub (pc := 29) hV dX12_load_29 ?_
      refine zr_i2l (pc := 30) hV dX12_load_30 (by omega) ?_
      refine zr_callSp (pc := 31) hV [ZL place, ZL 0, ZL (64 - n)] (st := []) (c_X12_in (σ := σ) place 0 (64 - n) (by omega) (by omega) (by omega)) dX12_load_31 mX12_170 (by decide) (Nat.le_of_ble_eq_true rfl) (Nat.le_refl _) (fun r31 hr31 pr31 => ?_)
      refine zr_if_ne (pc := 34) hV 39 dX12_load_34 (by decide) (by omega) (fun c3 => ?_) (fun c3 => ?_)
      · show V 39 [some (ZR 0), some (ZI sheet), some (ZI lane), some (ZI from_), some (ZI place), some (ZI n), none, none, none] [] 41 σ
        refine zr_aload_n (pc := 39) hV dX12_load_39 rfl rfl ?_
        refine zr_iload_n (pc := 40) hV dX12_load_40 rfl rfl ?_
        refine zr_iload_n (pc := 41) hV dX12_load_41 rfl rfl ?_
        refine zr_iload_n (pc := 42) hV dX12_load_42 rfl rfl ?_
        refine zr_iload (pc := 43) hV dX12_load_43 rfl ?_
        refine zr_callVp (pc := 45) hV [ZI sheet, ZI lane, ZI from_, ZI n] (st := []) (c_X12_against (σ := σ) hσ sheet lane from_ n (by omega) (by omega) (by omega) (by omega)) dX12_load_45 mX12_485 rfl (by decide) (by decide) (Nat.le_of_ble_eq_true rfl) (Nat.le_refl _) (fun r45 hr45 pr45 => ?_)
        refine zr_istore (pc := 48) hV [some (ZR 0), some (ZI sheet), some (ZI lane), some (ZI from_), some (ZI place), some (ZI n), some (ZI r45), none, none] dX12_load_48 (by decide) rfl rfl ?_
        refine zr_iload (pc := 50) hV dX12_load_50 rfl ?_
        refine zr_if_ge (pc := 52) hV 58 dX12_load_52 (by decide) (by omega) (fun c4 => ?_) (fun c4 => ?_)
        · show V 58 [some (ZR 0), some (ZI sheet), some (ZI lane), some (ZI from_), some (ZI place), some (ZI n), some (ZI r45), none, none] [] 41 σ
          refine zr_bipush (pc := 58) hV 30 dX12_load_58 (by decide) ?_
          refine zr_iload_n (pc := 60) hV dX12_load_60 rfl rfl ?_
          refine zr_imul (pc := 61) hV dX12_load_61 ?_
          refine zr_iload_n (pc := 62) hV dX12_load_62 rfl rfl ?_
          refine zr_iadd (pc := 63) hV dX12_load_63 ?_
          refine zr_istore (pc := 64) hV [some (ZR 0), some (ZI sheet), some (ZI lane), some (ZI from_), some (ZI place), some (ZI n), some (ZI r45), some (ZI ((30 * sheet) + from_)), none] dX12_load_64 (by decide) rfl rfl ?_
          refine zr_iconst (pc := 66) hV 0 dX12_load_66 rfl ?_
          refine zr_istore (pc := 67) hV [some (ZR 0), some (ZI sheet), some (ZI lane), some (ZI from_), some (ZI place), some (ZI n), some (ZI r45), some (ZI ((30 * sheet) + from_)), some (ZI 0)] dX12_load_67 (by decide) rfl rfl ?_
          have L69 : ∀ (fuel : Nat) (x8_69 : Int), (0 ≤ x8_69 ∧ x8_69 ≤ 30) → (∀ j, 0 ≤ j → j < x8_69 → 0 ≤ σ 40 (30 * sheet + from_ + j) ∧ σ 40 (30 * sheet + from_ + j) < zx_p2 (σ 0 2) ∧ σ 40 (30 * sheet + from_ + j) ≤ 4095) → 30 - x8_69 < (fuel : Int) → V 69 [some (ZR 0), none, none, none, some (ZI place), some (ZI n), none, some (ZI ((30 * sheet) + from_)), some (ZI x8_69)] [] 41 σ := by
            intro fuel
            induction fuel with
            | zero =>
              intro x8_69 hx8_69 hi69_0 hm69
              exfalso; omega
            | succ fuel ih =>
              intro x8_69 hx8_69 hi69_0 hm69
              have ih69 := ih
              show V 69 [some (ZR 0), none, none, none, some (ZI place), some (ZI n), none, some (ZI ((30 * sheet) + from_)), some (ZI x8_69)] [] 41 σ
              refine zr_iload (pc := 69) hV dX12_load_69 rfl ?_
              refine zr_iload (pc := 71) hV dX12_load_71 rfl ?_
              refine zr_icmp_ge (pc := 73) hV 102 dX12_load_73 (by decide) (by omega) (by omega) (fun c5 => ?_) (fun c5 => ?_)
              · show V 102 [some (ZR 0), none, none, none, some (ZI place), some (ZI n), none, some (ZI ((30 * sheet) + from_)), some (ZI x8_69)] [] 41 σ
                refine zr_iconst (pc := 102) hV 0 dX12_load_102 rfl ?_
                refine zr_istore (pc := 103) hV [some (ZR 0), none, none, none, some (ZI place), some (ZI n), none, some (ZI ((30 * sheet) + from_)), some (ZI 0)] dX12_load_103 (by decide) rfl rfl ?_
                have L105 : ∀ (fuel : Nat) (x8_105 : Int) (σ_105 : zq_S), (0 ≤ x8_105 ∧ x8_105 ≤ 30) → (zx_T σ_105) → (∀ a i : Int, (a ≠ 14) → σ_105 a i = σ a i) → (zx_K σ_105) → 30 - x8_105 < (fuel : Int) → V 105 [some (ZR 0), none, none, none, some (ZI place), some (ZI n), none, some (ZI ((30 * sheet) + from_)), some (ZI x8_105)] [] 41 σ_105 := by
                  intro fuel
                  induction fuel with
                  | zero =>
                    intro x8_105 σ_105 hx8_105 hσ_105 hFσ_105 Kσ_105 hm105
                    exfalso; omega
                  | succ fuel ih =>
                    intro x8_105 σ_105 hx8_105 hσ_105 hFσ_105 Kσ_105 hm105
                    have ih105 := ih
                    show V 105 [some (ZR 0), none, none, none, some (ZI place), some (ZI n), none, some (ZI ((30 * sheet) + from_)), some (ZI x8_105)] [] 41 σ_105
                    refine zr_iload (pc := 105) hV dX12_load_105 rfl ?_
                    refine zr_iload (pc := 107) hV dX12_load_107 rfl ?_
                    refine zr_icmp_ge (pc := 109) hV 138 dX12_load_109 (by decide) (by omega) (by omega) (fun c6 => ?_) (fun c6 => ?_)
                    · show V 138 [some (ZR 0), none, none, none, some (ZI place), some (ZI n), none, some (ZI ((30 * sheet) + from_)), some (ZI x8_105)] [] 41 σ_105
                      refine zr_iload (pc := 138) hV dX12_load_138 rfl ?_
                      exact zr_iret (pc := 140) hV dX12_load_140 rfl rfl ⟨_, rfl, (by omega), hσ_105, hFσ_105, trivial, Kσ_105⟩
                    · show V 112 [some (ZR 0), none, none, none, some (ZI place), some (ZI n), none, some (ZI ((30 * sheet) + from_)), some (ZI x8_105)] [] 41 σ_105
                      refine zr_aload_n (pc := 112) hV dX12_load_112 rfl rfl ?_
                      refine zr_getR (pc := 113) hV 23 14 dX12_load_113 fX12_59 rfl rfl rfl (by decide) (zx_g23 hσ_105) (by omega) ?_
                      refine zr_iload (pc := 116) hV dX12_load_116 rfl ?_
                      refine zr_iload (pc := 118) hV dX12_load_118 rfl ?_
                      refine zr_iadd (pc := 120) hV dX12_load_120 ?_
                      refine zr_aload_n (pc := 121) hV dX12_load_121 rfl rfl ?_
                      refine zr_getR (pc := 122) hV 64 40 dX12_load_122 fX12_144 rfl rfl rfl (by decide) (zx_g64 hσ_105) (by omega) ?_
                      refine zr_iload (pc := 125) hV dX12_load_125 rfl ?_
                      refine zr_iload (pc := 127) hV dX12_load_127 rfl ?_
                      refine zr_iadd (pc := 129) hV dX12_load_129 ?_
                      refine zr_iald (pc := 130) hV dX12_load_130 rfl (by decide) rfl (by omega) ?_
                      have t7 := zx_ga40 hσ_105 (((30 * sheet) + from_) + x8_105)
                      have t8 : σ_105 40 (((30 * sheet) + from_) + x8_105) = σ 40 (((30 * sheet) + from_) + x8_105) := hFσ_105 _ _ (by omega)
                      have zi := hi69_0 x8_105 (by omega) (by omega)
                      have zb := hFσ_105 0 2 (by omega)
                      refine zr_iast (pc := 131) hV dX12_load_131 rfl (by decide) rfl (by omega) (fun σ131 eσ131 => ?_)
                      have hσ131 : zx_T σ131 := zx_ua14 eσ131 hσ_105 (by omega)
                      have hFσ131 : ∀ a i : Int, (a ≠ 14) → σ131 a i = σ a i := fun a i h => by rw [eσ131, zq_up_ne (fun q => h q.1)]; exact hFσ_105 a i h
                      have Kσ131 : zx_K σ131 := zx_K_up Kσ_105 eσ131 (by rw [zb]; omega)
                      refine zr_iinc (pc := 132) hV [some (ZR 0), none, none, none, some (ZI place), some (ZI n), none, some (ZI ((30 * sheet) + from_)), some (ZI (x8_105 + 1))] (x8_105 + 1) dX12_load_132 rfl rfl (by decide) rfl rfl ?_
                      refine zr_goto (pc := 135) hV 105 dX12_load_135 (by decide) ?_
                      exact ih105 (x8_105 + 1) σ131 (by omega) hσ131 hFσ131 Kσ131 (by omega)
                exact L105 (30 - (0 : Int) + 1 : Int).toNat 0 σ (by omega) hσ (fun a i _ => rfl) Kσ (by omega)
              · show V 76 [some (ZR 0), none, none, none, some (ZI place), some (ZI n), none, some (ZI ((30 * sheet) + from_)), some (ZI x8_69)] [] 41 σ
                refine zr_aload_n (pc := 76) hV dX12_load_76 rfl rfl ?_
                refine zr_aload_n (pc := 77) hV dX12_load_77 rfl rfl ?_
                refine zr_getR (pc := 78) hV 64 40 dX12_load_78 fX12_144 rfl rfl rfl (by decide) (zx_g64 hσ) (by omega) ?_
                refine zr_iload (pc := 81) hV dX12_load_81 rfl ?_
                refine zr_iload (pc := 83) hV dX12_load_83 rfl ?_
                refine zr_iadd (pc := 85) hV dX12_load_85 ?_
                refine zr_iald (pc := 86) hV dX12_load_86 rfl (by decide) rfl (by omega) ?_
                have t9 := zx_ga40 hσ (((30 * sheet) + from_) + x8_69)
                refine zr_callVp (pc := 87) hV [ZI (σ 40 (((30 * sheet) + from_) + x8_69))] (st := []) (c_X12_isBits (σ := σ) hσ (σ 40 (((30 * sheet) + from_) + x8_69)) (by omega)) dX12_load_87 mX12_280 rfl (by decide) (by decide) (Nat.le_of_ble_eq_true rfl) (Nat.le_refl _) (fun r87 hr87 pr87 => ?_)
                have t10 := zx_g2 hσ
                refine zr_if_ne (pc := 90) hV 96 dX12_load_90 (by decide) (by omega) (fun c11 => ?_) (fun c11 => ?_)
                · show V 96 [some (ZR 0), none, none, none, some (ZI place), some (ZI n), none, some (ZI ((30 * sheet) + from_)), some (ZI x8_69)] [] 41 σ
                  refine zr_iinc (pc := 96) hV [some (ZR 0), none, none, none, some (ZI place), some (ZI n), none, some (ZI ((30 * sheet) + from_)), some (ZI (x8_69 + 1))] (x8_69 + 1) dX12_load_96 rfl rfl (by decide) rfl rfl ?_
                  refine zr_goto (pc := 99) hV 69 dX12_load_99 (by decide) ?_
                  have t12 := zx_g2 hσ
                  exact ih69 (x8_69 + 1) (by omega) (fun j h1 h2 => if hc : j = x8_69 then (by rw [hc]; omega) else hi69_0 j h1 (by omega)) (by omega)
                · show V 93 [some (ZR 0), none, none, none, some (ZI place), some (ZI n), none, some (ZI ((30 * sheet) + from_)), some (ZI x8_69)] [] 41 σ
                  refine zr_bipush (pc := 93) hV (-2) dX12_load_93 (by decide) ?_
                  exact zr_iret (pc := 95) hV dX12_load_95 rfl rfl ⟨_, rfl, ⟨by decide, by decide⟩, hσ, (fun a i _ => rfl), trivial, Kσ⟩
          have t13 := zx_g2 hσ
          refine zr_sub (pc := 69) hV [some (ZR 0), none, none, none, some (ZI place), some (ZI n), none, some (ZI ((30 * sheet) + from_)), some (ZI 0)] (⟨rfl, rfl, rfl, rfl, rfl, trivial⟩) ?_
          exact L69 (30 - (0 : Int) + 1 : Int).toNat 0 (by omega) (fun j h1 h2 => absurd h2 (by omega)) (by omega)
        · show V 55 [some (ZR 0), some (ZI sheet), some (ZI lane), some (ZI from_), some (ZI place), some (ZI n), some (ZI r45), none, none] [] 41 σ
          refine zr_iload (pc := 55) hV dX12_load_55 rfl ?_
          exact zr_iret (pc := 57) hV dX12_load_57 rfl rfl ⟨_, rfl, (by omega), hσ, (fun a i _ => rfl), trivial, Kσ⟩
      · show V 37 [some (ZR 0), some (ZI sheet), some (ZI lane), some (ZI from_), some (ZI place), some (ZI n), none, none, none] [] 41 σ
        refine zr_iconst (pc := 37) hV (-1) dX12_load_37 rfl ?_
        exact zr_iret (pc := 38) hV dX12_load_38 rfl rfl ⟨_, rfl, ⟨by decide, by decide⟩, hσ, (fun a i _ => rfl), trivial, Kσ⟩
set_option maxHeartbeats 800000 in
theorem c_X12_readLine {σ : zq_S} (hσ : zx_T σ)  : zq_C zx_w yX12_readLine cX12_readLine 5 (some .int) 2 49 41 41 [ZR 0] σ (zq_pi (fun r τ => zx_T τ ∧ (∀ a i : Int, (¬ (a = 0 ∧ i = 15) ∧ ¬ (a = 0 ∧ i = 16) ∧ a ≠ 19) → τ a i = σ a i) ∧ (-1 ≤ r ∧ r ≤ 19))) := by
  refine zq_C_of (by decide) (Nat.le_refl _) (Nat.le_of_ble_eq_true rfl) [some (ZR 0), none, none, none, none] rfl (fun V hV => ?_)
  show V 0 [some (ZR 0), none, none, none, none] [] 41 σ
  refine zr_aload_n (pc := 0) hV dX12_readLine_0 rfl rfl ?_
  refine zr_iconst (pc := 1) hV 0 dX12_readLine_1 rfl ?_
  refine zr_putI (pc := 2) hV 15 dX12_readLine_2 fX12_200 rfl rfl rfl rfl (by decide) (fun σ2 eσ2 => ?_)
  have hσ2 : zx_T σ2 := zx_u15 eσ2 hσ (by omega)
  have hFσ2 : ∀ a i : Int, (¬ (a = 0 ∧ i = 15) ∧ ¬ (a = 0 ∧ i = 16) ∧ a ≠ 19) → σ2 a i = σ a i := fun a i h => by rw [eσ2, zq_up_ne h.1]
  refine zr_aload_n (pc := 5) hV dX12_readLine_5 rfl rfl ?_
  refine zr_callVi (pc := 6) hV [] (st := []) (c_X12_readName (σ := σ2) hσ2 ) dX12_readLine_6 mX12_218 rfl (by decide) (by decide) (Nat.le_of_ble_eq_true rfl) (Nat.le_refl _) (fun r6 σ6 hr6 pσ6 => ?_)
  obtain ⟨hσ6, hfσ6, pσ6⟩ := pσ6
  have hFσ6 : ∀ a i : Int, (¬ (a = 0 ∧ i = 15) ∧ ¬ (a = 0 ∧ i = 16) ∧ a ≠ 19) → σ6 a i = σ a i := fun a i h => (hfσ6 a i ⟨h.1, h.2.1⟩).trans (hFσ2 a i h)
  refine zr_istore_n (pc := 9) hV [some (ZR 0), some (ZI r6), none, none, none] dX12_readLine_9 rfl (by decide) rfl rfl ?_
  refine zr_iload_n (pc := 10) hV dX12_readLine_10 rfl rfl ?_
  refine zr_if_ne (pc := 11) hV 18 dX12_readLine_11 (by decide) (by omega) (fun c1 => ?_) (fun c1 => ?_)
  · show V 18 [some (ZR 0), some (ZI r6), none, none, none] [] 41 σ6
    refine zr_aload_n (pc := 18) hV dX12_readLine_18 rfl rfl ?_
    refine zr_iload_n (pc := 19) hV dX12_readLine_19 rfl rfl ?_
    refine zr_callVp (pc := 20) hV [ZI r6] (st := []) (c_X12_named (σ := σ6) hσ6 r6 (by omega)) dX12_readLine_20 mX12_221 rfl (by decide) (by decide) (Nat.le_of_ble_eq_true rfl) (Nat.le_refl _) (fun r20 hr20 pr20 => ?_)
    have t2 := zx_g3 hσ6
    have t3 : σ6 0 3 = σ2 0 3 := hfσ6 _ _ (by omega)
    have t4 : σ2 0 3 = σ 0 3 := by rw [eσ2]; exact zq_up_ne (by omega)
    show V 23 [some (ZR 0), some (ZI r6), none, none, none] [ZI r20] 41 σ6
    refine zr_istore_n (pc := 23) hV [some (ZR 0), some (ZI r6), some (ZI r20), none, none] dX12_readLine_23 rfl (by decide) rfl rfl ?_
    refine zr_iload_n (pc := 24) hV dX12_readLine_24 rfl rfl ?_
    refine zr_if_ge (pc := 25) hV 38 dX12_readLine_25 (by decide) (by omega) (fun c5 => ?_) (fun c5 => ?_)
    · show V 38 [some (ZR 0), some (ZI r6), some (ZI r20), none, none] [] 41 σ6
      refine zr_iconst (pc := 38) hV 1 dX12_readLine_38 rfl ?_
      refine zr_istore_n (pc := 39) hV [some (ZR 0), some (ZI r6), some (ZI r20), some (ZI 1), none] dX12_readLine_39 rfl (by decide) rfl rfl ?_
      refine zr_iconst (pc := 40) hV 0 dX12_readLine_40 rfl ?_
      refine zr_istore (pc := 41) hV [some (ZR 0), some (ZI r6), some (ZI r20), some (ZI 1), some (ZI 0)] dX12_readLine_41 (by decide) rfl rfl ?_
      have L43 : ∀ (fuel : Nat) (x3_43 : Int) (x4_43 : Int) (σ_43 : zq_S), (0 ≤ x3_43 ∧ x3_43 ≤ 1) → (0 ≤ x4_43 ∧ x4_43 ≤ 4) → (zx_T σ_43) → (∀ a i : Int, (¬ (a = 0 ∧ i = 15) ∧ ¬ (a = 0 ∧ i = 16) ∧ a ≠ 19) → σ_43 a i = σ a i) → 4 - x4_43 < (fuel : Int) → V 43 [some (ZR 0), none, some (ZI r20), some (ZI x3_43), some (ZI x4_43)] [] 41 σ_43 := by
        intro fuel
        induction fuel with
        | zero =>
          intro x3_43 x4_43 σ_43 hx3_43 hx4_43 hσ_43 hFσ_43 hm43
          exfalso; omega
        | succ fuel ih =>
          intro x3_43 x4_43 σ_43 hx3_43 hx4_43 hσ_43 hFσ_43 hm43
          have ih43 := ih
          show V 43 [some (ZR 0), none, some (ZI r20), some (ZI x3_43), some (ZI x4_43)] [] 41 σ_43
          refine zr_iload (pc := 43) hV dX12_readLine_43 rfl ?_
          refine zr_iconst (pc := 45) hV 4 dX12_readLine_45 rfl ?_
          refine zr_icmp_ge (pc := 46) hV 116 dX12_readLine_46 (by decide) (by omega) ⟨by decide, by decide⟩ (fun c6 => ?_) (fun c6 => ?_)
          · show V 116 [some (ZR 0), none, some (ZI r20), some (ZI x3_43), some (ZI x4_43)] [] 41 σ_43
            refine zr_aload_n (pc := 116) hV dX12_readLine_116 rfl rfl ?_
            refine zr_callVi (pc := 117) hV [] (st := []) (c_X12_next (σ := σ_43) hσ_43 ) dX12_readLine_117 mX12_203 rfl (by decide) (by decide) (Nat.le_of_ble_eq_true rfl) (Nat.le_refl _) (fun r117 σ117 hr117 pσ117 => ?_)
            obtain ⟨hσ117, hfσ117, pσ117, wσ117⟩ := pσ117
            have hFσ117 : ∀ a i : Int, (¬ (a = 0 ∧ i = 15) ∧ ¬ (a = 0 ∧ i = 16) ∧ a ≠ 19) → σ117 a i = σ a i := fun a i h => (hfσ117 a i h.1).trans (hFσ_43 a i h)
            have t7 := zx_g14 hσ_43
            have t8 : σ_43 0 14 = σ 0 14 := hFσ_43 _ _ (by omega)
            have t9 := zx_g15 hσ_43
            have t10 := zx_g15 hσ117
            refine zr_if_ge (pc := 120) hV 127 dX12_readLine_120 (by decide) (by omega) (fun c11 => ?_) (fun c11 => ?_)
            · show V 127 [some (ZR 0), none, some (ZI r20), some (ZI x3_43), some (ZI x4_43)] [] 41 σ117
              refine zr_iconst (pc := 127) hV (-1) dX12_readLine_127 rfl ?_
              show V 128 [some (ZR 0), none, some (ZI r20), some (ZI x3_43), some (ZI x4_43)] [ZI (-1)] 41 σ117
              exact zr_iret (pc := 128) hV dX12_readLine_128 rfl rfl ⟨_, rfl, ⟨by decide, by decide⟩, hσ117, hFσ117, (by omega)⟩
            · show V 123 [some (ZR 0), none, some (ZI r20), some (ZI x3_43), some (ZI x4_43)] [] 41 σ117
              refine zr_iload_n (pc := 123) hV dX12_readLine_123 rfl rfl ?_
              refine zr_goto (pc := 124) hV 128 dX12_readLine_124 (by decide) ?_
              show V 128 [some (ZR 0), none, some (ZI r20), some (ZI x3_43), some (ZI x4_43)] [ZI r20] 41 σ117
              exact zr_iret (pc := 128) hV dX12_readLine_128 rfl rfl ⟨_, rfl, (by omega), hσ117, hFσ117, (by omega)⟩
          · show V 49 [some (ZR 0), none, some (ZI r20), some (ZI x3_43), some (ZI x4_43)] [] 41 σ_43
            refine zr_aload_n (pc := 49) hV dX12_readLine_49 rfl rfl ?_
            refine zr_iload_n (pc := 50) hV dX12_readLine_50 rfl rfl ?_
            refine zr_iload (pc := 51) hV dX12_readLine_51 rfl ?_
            refine zr_callVp (pc := 53) hV [ZI r20, ZI x4_43] (st := []) (c_X12_hasField (σ := σ_43) hσ_43 r20 x4_43 (by omega) (by omega)) dX12_readLine_53 mX12_188 rfl (by decide) (by decide) (Nat.le_of_ble_eq_true rfl) (Nat.le_refl _) (fun r53 hr53 pr53 => ?_)
            have t12 := zx_g2 hσ_43
            have t13 : σ_43 0 2 = σ 0 2 := hFσ_43 _ _ (by omega)
            refine zr_if_eq (pc := 56) hV 110 dX12_readLine_56 (by decide) (by omega) (fun c14 => ?_) (fun c14 => ?_)
            · show V 110 [some (ZR 0), none, some (ZI r20), some (ZI x3_43), some (ZI x4_43)] [] 41 σ_43
              refine zr_iinc (pc := 110) hV [some (ZR 0), none, some (ZI r20), some (ZI x3_43), some (ZI (x4_43 + 1))] (x4_43 + 1) dX12_readLine_110 rfl rfl (by decide) rfl rfl ?_
              refine zr_goto (pc := 113) hV 43 dX12_readLine_113 (by decide) ?_
              exact ih43 x3_43 (x4_43 + 1) σ_43 (by omega) (by omega) hσ_43 hFσ_43 (by omega)
            · show V 59 [some (ZR 0), none, some (ZI r20), some (ZI x3_43), some (ZI x4_43)] [] 41 σ_43
              refine zr_iload_n (pc := 59) hV dX12_readLine_59 rfl rfl ?_
              have J74 : ∀ (σ_74 : zq_S), (zx_T σ_74) → (∀ a i : Int, (¬ (a = 0 ∧ i = 15) ∧ ¬ (a = 0 ∧ i = 16) ∧ a ≠ 19) → σ_74 a i = σ a i) → V 74 [some (ZR 0), none, some (ZI r20), none, some (ZI x4_43)] [] 41 σ_74 := by
                intro σ_74 hσ_74 hFσ_74
                show V 74 [some (ZR 0), none, some (ZI r20), none, some (ZI x4_43)] [] 41 σ_74
                refine zr_iconst (pc := 74) hV 0 dX12_readLine_74 rfl ?_
                refine zr_istore_n (pc := 75) hV [some (ZR 0), none, some (ZI r20), some (ZI 0), some (ZI x4_43)] dX12_readLine_75 rfl (by decide) rfl rfl ?_
                refine zr_aload_n (pc := 76) hV dX12_readLine_76 rfl rfl ?_
                refine zr_getR (pc := 77) hV 32 19 dX12_readLine_77 fX12_78 rfl rfl rfl (by decide) (zx_g32 hσ_74) (by omega) ?_
                refine zr_iload (pc := 80) hV dX12_readLine_80 rfl ?_
                refine zr_aload_n (pc := 82) hV dX12_readLine_82 rfl rfl ?_
                refine zr_iconst (pc := 83) hV 1 dX12_readLine_83 rfl ?_
                refine zr_aload_n (pc := 84) hV dX12_readLine_84 rfl rfl ?_
                refine zr_iload_n (pc := 85) hV dX12_readLine_85 rfl rfl ?_
                refine zr_iload (pc := 86) hV dX12_readLine_86 rfl ?_
                refine zr_callVp (pc := 88) hV [ZI r20, ZI x4_43] (st := [ZI 1, ZR 0, ZI x4_43, ZR 19]) (c_X12_fieldBits (σ := σ_74) hσ_74 r20 x4_43 (by omega) (by omega)) dX12_readLine_88 mX12_184 rfl (by decide) (by decide) (Nat.le_of_ble_eq_true rfl) (Nat.le_refl _) (fun r88 hr88 pr88 => ?_)
                have t15 := zx_g2 hσ_74
                have t16 : σ_74 0 2 = σ 0 2 := hFσ_74 _ _ (by omega)
                refine zr_ishl (pc := 91) hV dX12_readLine_91 ?_
                have t17 := zx_shl_one (y := r88) 12 4096 (by decide) (by decide) (by omega)
                refine zr_iconst (pc := 92) hV 1 dX12_readLine_92 rfl ?_
                refine zr_isub (pc := 93) hV dX12_readLine_93 ?_
                refine zr_callVi (pc := 94) hV [ZI ((zq_shl 1 r88) - 1)] (st := [ZI x4_43, ZR 19]) (c_X12_number (σ := σ_74) hσ_74 ((zq_shl 1 r88) - 1) (by omega)) dX12_readLine_94 mX12_238 rfl (by decide) (by decide) (Nat.le_of_ble_eq_true rfl) (Nat.le_refl _) (fun r94 σ94 hr94 pσ94 => ?_)
                obtain ⟨hσ94, hfσ94, pσ94⟩ := pσ94
                have hFσ94 : ∀ a i : Int, (¬ (a = 0 ∧ i = 15) ∧ ¬ (a = 0 ∧ i = 16) ∧ a ≠ 19) → σ94 a i = σ a i := fun a i h => (hfσ94 a i h.1).trans (hFσ_74 a i h)
                have t18 := zx_g15 hσ_74
                have t19 := zx_g15 hσ94
                refine zr_iast (pc := 97) hV dX12_readLine_97 rfl (by decide) rfl (by omega) (fun σ97 eσ97 => ?_)
                have hσ97 : zx_T σ97 := zx_ua19 eσ97 hσ94 (by omega)
                have hFσ97 : ∀ a i : Int, (¬ (a = 0 ∧ i = 15) ∧ ¬ (a = 0 ∧ i = 16) ∧ a ≠ 19) → σ97 a i = σ a i := fun a i h => by rw [eσ97, zq_up_ne (fun q => h.2.2 q.1)]; exact hFσ94 a i h
                refine zr_aload_n (pc := 98) hV dX12_readLine_98 rfl rfl ?_
                refine zr_getR (pc := 99) hV 32 19 dX12_readLine_99 fX12_78 rfl rfl rfl (by decide) (zx_g32 hσ97) (by omega) ?_
                refine zr_iload (pc := 102) hV dX12_readLine_102 rfl ?_
                refine zr_iald (pc := 104) hV dX12_readLine_104 rfl (by decide) rfl (by omega) ?_
                have t20 := zx_ga19 hσ97 x4_43
                have t21 : σ97 19 x4_43 = r94 := by rw [eσ97]; exact zq_up_same _ _ _ _
                refine zr_if_ge (pc := 105) hV 110 dX12_readLine_105 (by decide) (by omega) (fun c22 => ?_) (fun c22 => ?_)
                · show V 110 [some (ZR 0), none, some (ZI r20), some (ZI 0), some (ZI x4_43)] [] 41 σ97
                  refine zr_iinc (pc := 110) hV [some (ZR 0), none, some (ZI r20), some (ZI 0), some (ZI (x4_43 + 1))] (x4_43 + 1) dX12_readLine_110 rfl rfl (by decide) rfl rfl ?_
                  refine zr_goto (pc := 113) hV 43 dX12_readLine_113 (by decide) ?_
                  exact ih43 0 (x4_43 + 1) σ97 (by omega) (by omega) hσ97 hFσ97 (by omega)
                · show V 108 [some (ZR 0), none, some (ZI r20), some (ZI 0), some (ZI x4_43)] [] 41 σ97
                  refine zr_iconst (pc := 108) hV (-1) dX12_readLine_108 rfl ?_
                  exact zr_iret (pc := 109) hV dX12_readLine_109 rfl rfl ⟨_, rfl, ⟨by decide, by decide⟩, hσ97, hFσ97, (by omega)⟩
              refine zr_if_ne (pc := 60) hV 74 dX12_readLine_60 (by decide) (by omega) (fun c23 => ?_) (fun c23 => ?_)
              · refine zr_sub (pc := 74) hV [some (ZR 0), none, some (ZI r20), none, some (ZI x4_43)] (⟨rfl, rfl, rfl, trivial⟩) ?_
                exact J74 σ_43 hσ_43 hFσ_43
              · show V 63 [some (ZR 0), none, some (ZI r20), some (ZI x3_43), some (ZI x4_43)] [] 41 σ_43
                refine zr_aload_n (pc := 63) hV dX12_readLine_63 rfl rfl ?_
                refine zr_bipush (pc := 64) hV 44 dX12_readLine_64 (by decide) ?_
                refine zr_callVi (pc := 66) hV [ZI 44] (st := []) (c_X12_takes (σ := σ_43) hσ_43 44 (by omega)) dX12_readLine_66 mX12_234 rfl (by decide) (by decide) (Nat.le_of_ble_eq_true rfl) (Nat.le_refl _) (fun r66 σ66 hr66 pσ66 => ?_)
                obtain ⟨hσ66, hfσ66, pσ66⟩ := pσ66
                have hFσ66 : ∀ a i : Int, (¬ (a = 0 ∧ i = 15) ∧ ¬ (a = 0 ∧ i = 16) ∧ a ≠ 19) → σ66 a i = σ a i := fun a i h => (hfσ66 a i h.1).trans (hFσ_43 a i h)
                have t24 := zx_g15 hσ_43
                have t25 := zx_g15 hσ66
                refine zr_if_ne (pc := 69) hV 74 dX12_readLine_69 (by decide) (by omega) (fun c26 => ?_) (fun c26 => ?_)
                · refine zr_sub (pc := 74) hV [some (ZR 0), none, some (ZI r20), none, some (ZI x4_43)] (⟨rfl, rfl, rfl, trivial⟩) ?_
                  exact J74 σ66 hσ66 hFσ66
                · show V 72 [some (ZR 0), none, some (ZI r20), some (ZI x3_43), some (ZI x4_43)] [] 41 σ66
                  refine zr_iconst (pc := 72) hV (-1) dX12_readLine_72 rfl ?_
                  exact zr_iret (pc := 73) hV dX12_readLine_73 rfl rfl ⟨_, rfl, ⟨by decide, by decide⟩, hσ66, hFσ66, (by omega)⟩
      refine zr_sub (pc := 43) hV [some (ZR 0), none, some (ZI r20), some (ZI 1), some (ZI 0)] (⟨rfl, rfl, rfl, rfl, trivial⟩) ?_
      exact L43 (4 - (0 : Int) + 1 : Int).toNat 1 0 σ6 (by omega) (by omega) hσ6 hFσ6 (by omega)
    · show V 28 [some (ZR 0), some (ZI r6), some (ZI r20), none, none] [] 41 σ6
      refine zr_aload_n (pc := 28) hV dX12_readLine_28 rfl rfl ?_
      refine zr_aload_n (pc := 29) hV dX12_readLine_29 rfl rfl ?_
      refine zr_getI (pc := 30) hV 16 dX12_readLine_30 fX12_211 rfl rfl rfl (by decide) ?_
      have t27 := zx_g16 hσ6
      refine zr_putI (pc := 33) hV 15 dX12_readLine_33 fX12_200 rfl rfl rfl rfl (by decide) (fun σ33 eσ33 => ?_)
      have hσ33 : zx_T σ33 := zx_u15 eσ33 hσ6 (by omega)
      have hFσ33 : ∀ a i : Int, (¬ (a = 0 ∧ i = 15) ∧ ¬ (a = 0 ∧ i = 16) ∧ a ≠ 19) → σ33 a i = σ a i := fun a i h => by rw [eσ33, zq_up_ne h.1]; exact hFσ6 a i h
      refine zr_iconst (pc := 36) hV (-1) dX12_readLine_36 rfl ?_
      exact zr_iret (pc := 37) hV dX12_readLine_37 rfl rfl ⟨_, rfl, ⟨by decide, by decide⟩, hσ33, hFσ33, (by omega)⟩
  · show V 14 [some (ZR 0), some (ZI r6), none, none, none] [] 41 σ6
    refine zr_iconst (pc := 14) hV (-1) dX12_readLine_14 rfl ?_
    refine zr_goto (pc := 15) hV 23 dX12_readLine_15 (by decide) ?_
    show V 23 [some (ZR 0), some (ZI r6), none, none, none] [ZI (-1)] 41 σ6
    refine zr_istore_n (pc := 23) hV [some (ZR 0), some (ZI r6), some (ZI (-1)), none, none] dX12_readLine_23 rfl (by decide) rfl rfl ?_
    refine zr_iload_n (pc := 24) hV dX12_readLine_24 rfl rfl ?_
    refine zr_if_ge (pc := 25) hV 38 dX12_readLine_25 (by decide) ⟨by decide, by decide⟩ (fun c28 => ?_) (fun c28 => ?_)
    · exfalso; omega
    · show V 28 [some (ZR 0), some (ZI r6), some (ZI (-1)), none, none] [] 41 σ6
      refine zr_aload_n (pc := 28) hV dX12_readLine_28 rfl rfl ?_
      refine zr_aload_n (pc := 29) hV dX12_readLine_29 rfl rfl ?_
      refine zr_getI (pc := 30) hV 16 dX12_readLine_30 fX12_211 rfl rfl rfl (by decide) ?_
      have t29 := zx_g16 hσ6
      refine zr_putI (pc := 33) hV 15 dX12_readLine_33 fX12_200 rfl rfl rfl rfl (by decide) (fun σ33 eσ33 => ?_)
      have hσ33 : zx_T σ33 := zx_u15 eσ33 hσ6 (by omega)
      have hFσ33 : ∀ a i : Int, (¬ (a = 0 ∧ i = 15) ∧ ¬ (a = 0 ∧ i = 16) ∧ a ≠ 19) → σ33 a i = σ a i := fun a i h => by rw [eσ33, zq_up_ne h.1]; exact hFσ6 a i h
      refine zr_iconst (pc := 36) hV (-1) dX12_readLine_36 rfl ?_
      exact zr_iret (pc := 37) hV dX12_readLine_37 rfl rfl ⟨_, rfl, ⟨by decide, by decide⟩, hσ33, hFσ33, (by omega)⟩
