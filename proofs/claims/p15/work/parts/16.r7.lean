set_option maxHeartbeats 800000 in
theorem c_X12_load {σ : zq_S} (hσ : zx_T σ) (sheet lane from_ place n : Int) (q0 : zq_in sheet) (q1 : zq_in lane) (q2 : zq_in from_) (q3 : zq_in place) (q4 : zq_in n) (Kσ : zx_K σ) : zq_C zx_w yX12_load cX12_load 9 (some .int) 2 49 41 41 [ZR 0, ZI sheet, ZI lane, ZI from_, ZI place, ZI n] σ (zq_pi (fun r τ => zx_T τ ∧ (∀ a i : Int, (a ≠ 14) → τ a i = σ a i) ∧ (True) ∧ zx_K τ)) := by
  refine zq_C_of (by decide) (Nat.le_refl _) (Nat.le_of_ble_eq_true rfl) [some (ZR 0), some (ZI sheet), some (ZI lane), some (ZI from_), some (ZI place), some (ZI n), none, none, none] rfl (fun V hV => ?_)
  have z2 := zx_g2 hσ
  show V 0 [some (ZR 0), some (ZI sheet), some (ZI lane), some (ZI from_), some (ZI place), some (ZI n), none, none, none] [] 41 σ
  refine zr_iload_n (pc := 0) hV dX12_load_0 rfl rfl ?_
  refine zr_iload_n (pc := 1) hV dX12_load_1 rfl rfl ?_
  refine zr_callSp (pc := 2) hV [ZI sheet, ZI lane] (st := []) (c_X12_isSheet (σ := σ) sheet lane (by omega) (by omega)) dX12_load_2 mX12_480 (by decide) (Nat.le_of_ble_eq_true rfl) (Nat.le_refl _) (fun r2 hr2 pr2 => ?_)
  refine zr_if_eq (pc := 5) hV 37 dX12_load_5 (by decide) (by omega) (fun c1 => ?_) (fun c1 => ?_)
  · show V 37 [some (ZR 0), some (ZI sheet), some (ZI lane), some (ZI from_), some (ZI place), some (ZI n), none, none, none] [] 41 σ
    refine zr_iconst (pc := 37) hV (-1) dX12_load_37 rfl ?_
    exact zr_iret (pc := 38) hV dX12_load_38 rfl rfl ⟨_, rfl, ⟨by decide, by decide⟩, hσ, (fun a i _ => rfl), trivial, Kσ⟩
  · show V 8 [some (ZR 0), some (ZI sheet), some (ZI lane), some (ZI from_), some (ZI place), some (ZI n), none, none, none] [] 41 σ
    refine zr_iload (pc := 8) hV dX12_load_8 rfl ?_
    refine zr_i2l (pc := 10) hV dX12_load_10 (by omega) ?_
    refine zr_lconst (pc := 11) hV 0 dX12_load_11 (by decide) ?_
    refine zr_ldc2 (pc := 12) (v := 30) hV 30 dX12_load_12 kX12_491 (by decide) ?_
    refine zr_callSp (pc := 15) hV [ZL n, ZL 0, ZL 30] (st := []) (c_X12_in (σ := σ) n 0 30 (by omega) (by omega) (by omega)) dX12_load_15 mX12_170 (by decide) (Nat.le_of_ble_eq_true rfl) (Nat.le_refl _) (fun r15 hr15 pr15 => ?_)
    refine zr_if_eq (pc := 18) hV 37 dX12_load_18 (by decide) (by omega) (fun c2 => ?_) (fun c2 => ?_)
    · show V 37 [some (ZR 0), some (ZI sheet), some (ZI lane), some (ZI from_), some (ZI place), some (ZI n), none, none, none] [] 41 σ
      refine zr_iconst (pc := 37) hV (-1) dX12_load_37 rfl ?_
      exact zr_iret (pc := 38) hV dX12_load_38 rfl rfl ⟨_, rfl, ⟨by decide, by decide⟩, hσ, (fun a i _ => rfl), trivial, Kσ⟩
    · show V 21 [some (ZR 0), some (ZI sheet), some (ZI lane), some (ZI from_), some (ZI place), some (ZI n), none, none, none] [] 41 σ
      refine zr_iload (pc := 21) hV dX12_load_21 rfl ?_
      refine zr_i2l (pc := 23) hV dX12_load_23 (by omega) ?_
      refine zr_lconst (pc := 24) hV 0 dX12_load_24 (by decide) ?_
      refine zr_bipush (pc := 25) hV 64 dX12_load_25 (by decide) ?_
      refine zr_iload (pc := 27) hV dX12_load_27 rfl ?_
      refine zr_isub (pc := 29) hV dX12_load_29 ?_
      refine zr_i2l (pc := 30) hV dX12_load_30 (by omega) ?_
      refine zr_callSp (pc := 31) hV [ZL place, ZL 0, ZL (64 - n)] (st := []) (c_X12_in (σ := σ) place 0 (64 - n) (by omega) (by omega) (by omega)) dX12_load_31 mX12_170 (by decide) (Nat.le_of_ble_eq_true rfl) (Nat.le_refl _) (fun r31 hr31 pr31 => ?_)
      refine zr_if_ne (pc := 34) hV 39 dX12_load_34 (by decide) (by omega) (fun c3 => ?_) (fun c3 => ?_)
      · show V 39 [some (ZR 0), some (ZI sheet), some (ZI lane), some (ZI from_), some (ZI place), some (ZI n), none, none, none] [] 41 σ
        refine zr_aload_n (pc := 39) hV dX12_load_39 rfl rfl ?_
        refine zr_iload_n (pc := 40) hV dX12_load_40 rfl rfl ?_
        refine zr_iload_n (pc := 41) hV dX12_load_41 rfl rfl ?_
        refine zr_iload_n (pc := 42) hV dX12_load_42 rfl rfl ?_
        refine zr_iload (pc := 43) hV dX12_load_43 rfl ?_
        refine zr_callVp (pc := 45) hV [ZI sheet, ZI lane, ZI from_, ZI n] (st := []) (c_X12_against (σ := σ) hσ sheet lane from_ n (by omega) (by omega) (by omega) (by omega)) dX12_load_45 mX12_485 rfl (by decide) (by decide) (Nat.le_of_ble_eq_true rfl) (Nat.le_refl _) (fun r45 hr45 pr45 => ?_)
        refine zr_istore (pc := 48) hV [some (ZR 0), some (ZI sheet), some (ZI lane), some (ZI from_), some (ZI place), some (ZI n), some (ZI r45), none, none] dX12_load_48 (by decide) rfl rfl ?_
        refine zr_iload (pc := 50) hV dX12_load_50 rfl ?_
        refine zr_if_ge (pc := 52) hV 58 dX12_load_52 (by decide) (by omega) (fun c4 => ?_) (fun c4 => ?_)
        · show V 58 [some (ZR 0), some (ZI sheet), some (ZI lane), some (ZI from_), some (ZI place), some (ZI n), some (ZI r45), none, none] [] 41 σ
          refine zr_bipush (pc := 58) hV 30 dX12_load_58 (by decide) ?_
          refine zr_iload_n (pc := 60) hV dX12_load_60 rfl rfl ?_
          refine zr_imul (pc := 61) hV dX12_load_61 ?_
          refine zr_iload_n (pc := 62) hV dX12_load_62 rfl rfl ?_
          refine zr_iadd (pc := 63) hV dX12_load_63 ?_
          refine zr_istore (pc := 64) hV [some (ZR 0), some (ZI sheet), some (ZI lane), some (ZI from_), some (ZI place), some (ZI n), some (ZI r45), some (ZI ((30 * sheet) + from_)), none] dX12_load_64 (by decide) rfl rfl ?_
          refine zr_iconst (pc := 66) hV 0 dX12_load_66 rfl ?_
          refine zr_istore (pc := 67) hV [some (ZR 0), some (ZI sheet), some (ZI lane), some (ZI from_), some (ZI place), some (ZI n), some (ZI r45), some (ZI ((30 * sheet) + from_)), some (ZI 0)] dX12_load_67 (by decide) rfl rfl ?_
          have L69 : ∀ (fuel : Nat) (x8_69 : Int), (0 ≤ x8_69 ∧ x8_69 ≤ 30) → (∀ j, 0 ≤ j → j < x8_69 → 0 ≤ σ 40 (30 * sheet + from_ + j) ∧ σ 40 (30 * sheet + from_ + j) < zx_p2 (σ 0 2) ∧ σ 40 (30 * sheet + from_ + j) ≤ 4095) → 30 - x8_69 < (fuel : Int) → V 69 [some (ZR 0), none, none, none, some (ZI place), some (ZI n), none, some (ZI ((30 * sheet) + from_)), some (ZI x8_69)] [] 41 σ := by
            intro fuel
            induction fuel with
            | zero =>
              intro x8_69 hx8_69 hi69_0 hm69
              exfalso; omega
            | succ fuel ih =>
              intro x8_69 hx8_69 hi69_0 hm69
              have ih69 := ih
              show V 69 [some (ZR 0), none, none, none, some (ZI place), some (ZI n), none, some (ZI ((30 * sheet) + from_)), some (ZI x8_69)] [] 41 σ
              refine zr_iload (pc := 69) hV dX12_load_69 rfl ?_
              refine zr_iload (pc := 71) hV dX12_load_71 rfl ?_
              refine zr_icmp_ge (pc := 73) hV 102 dX12_load_73 (by decide) (by omega) (by omega) (fun c5 => ?_) (fun c5 => ?_)
              · show V 102 [some (ZR 0), none, none, none, some (ZI place), some (ZI n), none, some (ZI ((30 * sheet) + from_)), some (ZI x8_69)] [] 41 σ
                refine zr_iconst (pc := 102) hV 0 dX12_load_102 rfl ?_
                refine zr_istore (pc := 103) hV [some (ZR 0), none, none, none, some (ZI place), some (ZI n), none, some (ZI ((30 * sheet) + from_)), some (ZI 0)] dX12_load_103 (by decide) rfl rfl ?_
                have L105 : ∀ (fuel : Nat) (x8_105 : Int) (σ_105 : zq_S), (0 ≤ x8_105 ∧ x8_105 ≤ 30) → (zx_T σ_105) → (∀ a i : Int, (a ≠ 14) → σ_105 a i = σ a i) → (zx_K σ_105) → 30 - x8_105 < (fuel : Int) → V 105 [some (ZR 0), none, none, none, some (ZI place), some (ZI n), none, some (ZI ((30 * sheet) + from_)), some (ZI x8_105)] [] 41 σ_105 := by
                  intro fuel
                  induction fuel with
                  | zero =>
                    intro x8_105 σ_105 hx8_105 hσ_105 hFσ_105 Kσ_105 hm105
                    exfalso; omega
                  | succ fuel ih =>
                    intro x8_105 σ_105 hx8_105 hσ_105 hFσ_105 Kσ_105 hm105
                    have ih105 := ih
                    show V 105 [some (ZR 0), none, none, none, some (ZI place), some (ZI n), none, some (ZI ((30 * sheet) + from_)), some (ZI x8_105)] [] 41 σ_105
                    refine zr_iload (pc := 105) hV dX12_load_105 rfl ?_
                    refine zr_iload (pc := 107) hV dX12_load_107 rfl ?_
                    refine zr_icmp_ge (pc := 109) hV 138 dX12_load_109 (by decide) (by omega) (by omega) (fun c6 => ?_) (fun c6 => ?_)
                    · show V 138 [some (ZR 0), none, none, none, some (ZI place), some (ZI n), none, some (ZI ((30 * sheet) + from_)), some (ZI x8_105)] [] 41 σ_105
                      refine zr_iload (pc := 138) hV dX12_load_138 rfl ?_
                      exact zr_iret (pc := 140) hV dX12_load_140 rfl rfl ⟨_, rfl, (by omega), hσ_105, hFσ_105, trivial, Kσ_105⟩
                    · show V 112 [some (ZR 0), none, none, none, some (ZI place), some (ZI n), none, some (ZI ((30 * sheet) + from_)), some (ZI x8_105)] [] 41 σ_105
                      refine zr_aload_n (pc := 112) hV dX12_load_112 rfl rfl ?_
                      refine zr_getR (pc := 113) hV 23 14 dX12_load_113 fX12_59 rfl rfl rfl (by decide) (zx_g23 hσ_105) (by omega) ?_
                      refine zr_iload (pc := 116) hV dX12_load_116 rfl ?_
                      refine zr_iload (pc := 118) hV dX12_load_118 rfl ?_
                      refine zr_iadd (pc := 120) hV dX12_load_120 ?_
                      refine zr_aload_n (pc := 121) hV dX12_load_121 rfl rfl ?_
                      refine zr_getR (pc := 122) hV 64 40 dX12_load_122 fX12_144 rfl rfl rfl (by decide) (zx_g64 hσ_105) (by omega) ?_
                      refine zr_iload (pc := 125) hV dX12_load_125 rfl ?_
                      refine zr_iload (pc := 127) hV dX12_load_127 rfl ?_
                      refine zr_iadd (pc := 129) hV dX12_load_129 ?_
                      refine zr_iald (pc := 130) hV dX12_load_130 rfl (by decide) rfl (by omega) ?_
                      have t7 := zx_ga40 hσ_105 (((30 * sheet) + from_) + x8_105)
                      have t8 : σ_105 40 (((30 * sheet) + from_) + x8_105) = σ 40 (((30 * sheet) + from_) + x8_105) := hFσ_105 _ _ (by omega)
                      have zi := hi69_0 x8_105 (by omega) (by omega)
                      have zb := hFσ_105 0 2 (by omega)
                      refine zr_iast (pc := 131) hV dX12_load_131 rfl (by decide) rfl (by omega) (fun σ131 eσ131 => ?_)
                      have hσ131 : zx_T σ131 := zx_ua14 eσ131 hσ_105 (by omega)
                      have hFσ131 : ∀ a i : Int, (a ≠ 14) → σ131 a i = σ a i := fun a i h => by rw [eσ131, zq_up_ne (fun q => h q.1)]; exact hFσ_105 a i h
                      have Kσ131 : zx_K σ131 := zx_K_up Kσ_105 eσ131 (by rw [zb]; omega)
                      refine zr_iinc (pc := 132) hV [some (ZR 0), none, none, none, some (ZI place), some (ZI n), none, some (ZI ((30 * sheet) + from_)), some (ZI (x8_105 + 1))] (x8_105 + 1) dX12_load_132 rfl rfl (by decide) rfl rfl ?_
                      refine zr_goto (pc := 135) hV 105 dX12_load_135 (by decide) ?_
                      exact ih105 (x8_105 + 1) σ131 (by omega) hσ131 hFσ131 Kσ131 (by omega)
                exact L105 (30 - (0 : Int) + 1 : Int).toNat 0 σ (by omega) hσ (fun a i _ => rfl) Kσ (by omega)
              · show V 76 [some (ZR 0), none, none, none, some (ZI place), some (ZI n), none, some (ZI ((30 * sheet) + from_)), some (ZI x8_69)] [] 41 σ
                refine zr_aload_n (pc := 76) hV dX12_load_76 rfl rfl ?_
                refine zr_aload_n (pc := 77) hV dX12_load_77 rfl rfl ?_
                refine zr_getR (pc := 78) hV 64 40 dX12_load_78 fX12_144 rfl rfl rfl (by decide) (zx_g64 hσ) (by omega) ?_
                refine zr_iload (pc := 81) hV dX12_load_81 rfl ?_
                refine zr_iload (pc := 83) hV dX12_load_83 rfl ?_
                refine zr_iadd (pc := 85) hV dX12_load_85 ?_
                refine zr_iald (pc := 86) hV dX12_load_86 rfl (by decide) rfl (by omega) ?_
                have t9 := zx_ga40 hσ (((30 * sheet) + from_) + x8_69)
                refine zr_callVp (pc := 87) hV [ZI (σ 40 (((30 * sheet) + from_) + x8_69))] (st := []) (c_X12_isBits (σ := σ) hσ (σ 40 (((30 * sheet) + from_) + x8_69)) (by omega)) dX12_load_87 mX12_280 rfl (by decide) (by decide) (Nat.le_of_ble_eq_true rfl) (Nat.le_refl _) (fun r87 hr87 pr87 => ?_)
                have t10 := zx_g2 hσ
                refine zr_if_ne (pc := 90) hV 96 dX12_load_90 (by decide) (by omega) (fun c11 => ?_) (fun c11 => ?_)
                · show V 96 [some (ZR 0), none, none, none, some (ZI place), some (ZI n), none, some (ZI ((30 * sheet) + from_)), some (ZI x8_69)] [] 41 σ
                  refine zr_iinc (pc := 96) hV [some (ZR 0), none, none, none, some (ZI place), some (ZI n), none, some (ZI ((30 * sheet) + from_)), some (ZI (x8_69 + 1))] (x8_69 + 1) dX12_load_96 rfl rfl (by decide) rfl rfl ?_
                  refine zr_goto (pc := 99) hV 69 dX12_load_99 (by decide) ?_
                  have t12 := zx_g2 hσ
                  exact ih69 (x8_69 + 1) (by omega) (fun j h1 h2 => if hc : j = x8_69 then (by rw [hc]; omega) else hi69_0 j h1 (by omega)) (by omega)
                · show V 93 [some (ZR 0), none, none, none, some (ZI place), some (ZI n), none, some (ZI ((30 * sheet) + from_)), some (ZI x8_69)] [] 41 σ
                  refine zr_bipush (pc := 93) hV (-2) dX12_load_93 (by decide) ?_
                  exact zr_iret (pc := 95) hV dX12_load_95 rfl rfl ⟨_, rfl, ⟨by decide, by decide⟩, hσ, (fun a i _ => rfl), trivial, Kσ⟩
          have t13 := zx_g2 hσ
          refine zr_sub (pc := 69) hV [some (ZR 0), none, none, none, some (ZI place), some (ZI n), none, some (ZI ((30 * sheet) + from_)), some (ZI 0)] (⟨rfl, rfl, rfl, rfl, rfl, trivial⟩) ?_
          exact L69 (30 - (0 : Int) + 1 : Int).toNat 0 (by omega) (fun j h1 h2 => absurd h2 (by omega)) (by omega)
        · show V 55 [some (ZR 0), some (ZI sheet), some (ZI lane), some (ZI from_), some (ZI place), some (ZI n), some (ZI r45), none, none] [] 41 σ
          refine zr_iload (pc := 55) hV dX12_load_55 rfl ?_
          exact zr_iret (pc := 57) hV dX12_load_57 rfl rfl ⟨_, rfl, (by omega), hσ, (fun a i _ => rfl), trivial, Kσ⟩
      · show V 37 [some (ZR 0), some (ZI sheet), some (ZI lane), some (ZI from_), some (ZI place), some (ZI n), none, none, none] [] 41 σ
        refine zr_iconst (pc := 37) hV (-1) dX12_load_37 rfl ?_
        exact zr_iret (pc := 38) hV dX12_load_38 rfl rfl ⟨_, rfl, ⟨by decide, by decide⟩, hσ, (fun a i _ => rfl), trivial, Kσ⟩
set_option maxHeartbeats 800000 in
theorem c_X12_writeLine {σ : zq_S} (hσ : zx_T σ) (o bits : Int) (q0 : 0 ≤ o ∧ o ≤ 20) (q1 : zq_in bits) (q2 : zx_B σ o) : zq_C zx_w yX12_writeLine cX12_writeLine 7 (none) 2 46 41 41 [ZR 0, ZI o, ZI bits] σ (zq_pv (fun τ => zx_T τ ∧ (∀ a i : Int, (¬ (a = 0 ∧ i = 34) ∧ a ≠ 20) → τ a i = σ a i) ∧ (True))) := by
  refine zq_C_of (by decide) (Nat.le_refl _) (Nat.le_of_ble_eq_true rfl) [some (ZR 0), some (ZI o), some (ZI bits), none, none, none, none] rfl (fun V hV => ?_)
  show V 0 [some (ZR 0), some (ZI o), some (ZI bits), none, none, none, none] [] 41 σ
  refine zr_aload_n (pc := 0) hV dX12_writeLine_0 rfl rfl ?_
  refine zr_iconst (pc := 1) hV 0 dX12_writeLine_1 rfl ?_
  refine zr_putI (pc := 2) hV 34 dX12_writeLine_2 fX12_396 rfl rfl rfl rfl (by decide) (fun σ2 eσ2 => ?_)
  have hσ2 : zx_T σ2 := zx_u34 eσ2 hσ (by omega)
  have hFσ2 : ∀ a i : Int, (¬ (a = 0 ∧ i = 34) ∧ a ≠ 20) → σ2 a i = σ a i := fun a i h => by rw [eσ2, zq_up_ne h.1]
  refine zr_aload_n (pc := 5) hV dX12_writeLine_5 rfl rfl ?_
  refine zr_getR (pc := 6) hV 4 1 dX12_writeLine_6 fX12_19 rfl rfl rfl (by decide) (zx_g4 hσ2) (by omega) ?_
  refine zr_iload_n (pc := 9) hV dX12_writeLine_9 rfl rfl ?_
  refine zr_iald (pc := 10) hV dX12_writeLine_10 rfl (by decide) rfl (by omega) ?_
  have t1 := zx_ga1 hσ2 o
  have t2 : σ2 1 o = σ 1 o := by rw [eσ2]; exact zq_up_ne (by omega)
  refine zr_istore_n (pc := 11) hV [some (ZR 0), some (ZI o), some (ZI bits), some (ZI (σ2 1 o)), none, none, none] dX12_writeLine_11 rfl (by decide) rfl rfl ?_
  refine zr_sipush (pc := 12) hV 729 dX12_writeLine_12 (by decide) ?_
  refine zr_istore (pc := 15) hV [some (ZR 0), some (ZI o), some (ZI bits), some (ZI (σ2 1 o)), some (ZI 729), none, none] dX12_writeLine_15 (by decide) rfl rfl ?_
  have L17 : ∀ (fuel : Nat) (x4_17 : Int) (σ_17 : zq_S), (0 ≤ x4_17 ∧ x4_17 ≤ 729) → (zx_T σ_17) → (∀ a i : Int, (¬ (a = 0 ∧ i = 34) ∧ a ≠ 20) → σ_17 a i = σ a i) → (27 < x4_17 → σ_17 0 34 ≤ 0) → (1 < x4_17 → σ_17 0 34 ≤ 1) → (0 < x4_17 → σ_17 0 34 ≤ 2) → (σ_17 0 34 ≤ 3) → (x4_17 = 729 ∨ x4_17 = 27 ∨ x4_17 = 1 ∨ x4_17 = 0) → x4_17 < (fuel : Int) → V 17 [some (ZR 0), some (ZI o), some (ZI bits), some (ZI (σ2 1 o)), some (ZI x4_17), none, none] [] 41 σ_17 := by
    intro fuel
    induction fuel with
    | zero =>
      intro x4_17 σ_17 hx4_17 hσ_17 hFσ_17 hi17_0 hi17_1 hi17_2 hi17_3 hi17_4 hm17
      exfalso; omega
    | succ fuel ih =>
      intro x4_17 σ_17 hx4_17 hσ_17 hFσ_17 hi17_0 hi17_1 hi17_2 hi17_3 hi17_4 hm17
      have ih17 := ih
      show V 17 [some (ZR 0), some (ZI o), some (ZI bits), some (ZI (σ2 1 o)), some (ZI x4_17), none, none] [] 41 σ_17
      refine zr_iload (pc := 17) hV dX12_writeLine_17 rfl ?_
      refine zr_if_le (pc := 19) hV 54 dX12_writeLine_19 (by decide) (by omega) (fun c3 => ?_) (fun c3 => ?_)
      · show V 54 [some (ZR 0), some (ZI o), some (ZI bits), some (ZI (σ2 1 o)), some (ZI x4_17), none, none] [] 41 σ_17
        refine zr_iconst (pc := 54) hV 1 dX12_writeLine_54 rfl ?_
        refine zr_istore (pc := 55) hV [some (ZR 0), some (ZI o), some (ZI bits), some (ZI (σ2 1 o)), some (ZI 1), none, none] dX12_writeLine_55 (by decide) rfl rfl ?_
        refine zr_iconst (pc := 57) hV 0 dX12_writeLine_57 rfl ?_
        refine zr_istore (pc := 58) hV [some (ZR 0), some (ZI o), some (ZI bits), some (ZI (σ2 1 o)), some (ZI 1), some (ZI 0), none] dX12_writeLine_58 (by decide) rfl rfl ?_
        have L60 : ∀ (fuel : Nat) (x4_60 : Int) (x5_60 : Int) (σ_60 : zq_S), (0 ≤ x4_60 ∧ x4_60 ≤ 1) → (0 ≤ x5_60 ∧ x5_60 ≤ 4) → (zx_T σ_60) → (∀ a i : Int, (¬ (a = 0 ∧ i = 34) ∧ a ≠ 20) → σ_60 a i = σ a i) → (σ_60 0 34 ≤ 3 + 4 * x5_60) → 4 - x5_60 < (fuel : Int) → V 60 [some (ZR 0), some (ZI o), some (ZI bits), none, some (ZI x4_60), some (ZI x5_60), none] [] 41 σ_60 := by
          intro fuel
          induction fuel with
          | zero =>
            intro x4_60 x5_60 σ_60 hx4_60 hx5_60 hσ_60 hFσ_60 hi60_0 hm60
            exfalso; omega
          | succ fuel ih =>
            intro x4_60 x5_60 σ_60 hx4_60 hx5_60 hσ_60 hFσ_60 hi60_0 hm60
            have ih60 := ih
            show V 60 [some (ZR 0), some (ZI o), some (ZI bits), none, some (ZI x4_60), some (ZI x5_60), none] [] 41 σ_60
            refine zr_iload (pc := 60) hV dX12_writeLine_60 rfl ?_
            refine zr_iconst (pc := 62) hV 4 dX12_writeLine_62 rfl ?_
            refine zr_icmp_ge (pc := 63) hV 164 dX12_writeLine_63 (by decide) (by omega) ⟨by decide, by decide⟩ (fun c4 => ?_) (fun c4 => ?_)
            · show V 164 [some (ZR 0), some (ZI o), some (ZI bits), none, some (ZI x4_60), some (ZI x5_60), none] [] 41 σ_60
              exact zr_vret (pc := 164) hV dX12_writeLine_164 rfl rfl ⟨rfl, hσ_60, hFσ_60, trivial⟩
            · show V 66 [some (ZR 0), some (ZI o), some (ZI bits), none, some (ZI x4_60), some (ZI x5_60), none] [] 41 σ_60
              refine zr_aload_n (pc := 66) hV dX12_writeLine_66 rfl rfl ?_
              refine zr_iload_n (pc := 67) hV dX12_writeLine_67 rfl rfl ?_
              refine zr_iload (pc := 68) hV dX12_writeLine_68 rfl ?_
              refine zr_callVp (pc := 70) hV [ZI o, ZI x5_60] (st := []) (c_X12_hasField (σ := σ_60) hσ_60 o x5_60 (by omega) (by omega)) dX12_writeLine_70 mX12_188 rfl (by decide) (by decide) (Nat.le_of_ble_eq_true rfl) (Nat.le_refl _) (fun r70 hr70 pr70 => ?_)
              have t5 := zx_g2 hσ_60
              have t6 : σ_60 0 2 = σ 0 2 := hFσ_60 _ _ (by omega)
              refine zr_if_eq (pc := 73) hV 158 dX12_writeLine_73 (by decide) (by omega) (fun c7 => ?_) (fun c7 => ?_)
              · show V 158 [some (ZR 0), some (ZI o), some (ZI bits), none, some (ZI x4_60), some (ZI x5_60), none] [] 41 σ_60
                refine zr_iinc (pc := 158) hV [some (ZR 0), some (ZI o), some (ZI bits), none, some (ZI x4_60), some (ZI (x5_60 + 1)), none] (x5_60 + 1) dX12_writeLine_158 rfl rfl (by decide) rfl rfl ?_
                refine zr_goto (pc := 161) hV 60 dX12_writeLine_161 (by decide) ?_
                have t8 := zx_g34 hσ_60
                exact ih60 x4_60 (x5_60 + 1) σ_60 (by omega) (by omega) hσ_60 hFσ_60 (by omega) (by omega)
              · show V 76 [some (ZR 0), some (ZI o), some (ZI bits), none, some (ZI x4_60), some (ZI x5_60), none] [] 41 σ_60
                refine zr_aload_n (pc := 76) hV dX12_writeLine_76 rfl rfl ?_
                refine zr_iload (pc := 77) hV dX12_writeLine_77 rfl ?_
                have J89 : ∀ (v0_89 : Int), (32 ≤ v0_89 ∧ v0_89 ≤ 44) → V 89 [some (ZR 0), some (ZI o), some (ZI bits), none, none, some (ZI x5_60), none] [ZI v0_89, ZR 0] 41 σ_60 := by
                  intro v0_89 hv0_89
                  show V 89 [some (ZR 0), some (ZI o), some (ZI bits), none, none, some (ZI x5_60), none] [ZI v0_89, ZR 0] 41 σ_60
                  have t9 := zx_g34 hσ_60
                  refine zr_callVv (pc := 89) hV [ZI v0_89] (st := []) (c_X12_write (σ := σ_60) hσ_60 v0_89 (by omega) (by omega)) dX12_writeLine_89 mX12_399 rfl (by decide) (by decide) (Nat.le_of_ble_eq_true rfl) (Nat.le_refl _) (fun σ89 pσ89 => ?_)
                  obtain ⟨hσ89, hfσ89, pσ89⟩ := pσ89
                  have hFσ89 : ∀ a i : Int, (¬ (a = 0 ∧ i = 34) ∧ a ≠ 20) → σ89 a i = σ a i := fun a i h => (hfσ89 a i ⟨h.1, h.2⟩).trans (hFσ_60 a i h)
                  have t10 := zx_g34 hσ_60
                  have t11 := zx_g34 hσ89
                  refine zr_iconst (pc := 92) hV 0 dX12_writeLine_92 rfl ?_
                  refine zr_istore (pc := 93) hV [some (ZR 0), some (ZI o), some (ZI bits), none, some (ZI 0), some (ZI x5_60), none] dX12_writeLine_93 (by decide) rfl rfl ?_
                  refine zr_aload_n (pc := 95) hV dX12_writeLine_95 rfl rfl ?_
                  refine zr_iload_n (pc := 96) hV dX12_writeLine_96 rfl rfl ?_
                  refine zr_iload_n (pc := 97) hV dX12_writeLine_97 rfl rfl ?_
                  refine zr_iload (pc := 98) hV dX12_writeLine_98 rfl ?_
                  refine zr_callVp (pc := 100) hV [ZI o, ZI bits, ZI x5_60] (st := []) (c_X12_fieldOf (σ := σ89) hσ89 o bits x5_60 (by omega) (by omega) (by omega) (zx_B_fr (fun i => hFσ89 2 i (by omega)) (hFσ89 0 2 (by omega)) q2)) dX12_writeLine_100 mX12_289 rfl (by decide) (by decide) (Nat.le_of_ble_eq_true rfl) (Nat.le_refl _) (fun r100 hr100 pr100 => ?_)
                  refine zr_istore (pc := 103) hV [some (ZR 0), some (ZI o), some (ZI bits), none, some (ZI 0), some (ZI x5_60), some (ZI r100)] dX12_writeLine_103 (by decide) rfl rfl ?_
                  refine zr_iload (pc := 105) hV dX12_writeLine_105 rfl ?_
                  refine zr_bipush (pc := 107) hV 99 dX12_writeLine_107 (by decide) ?_
                  have J124 : ∀ (σ_124 : zq_S), (zx_T σ_124) → (∀ a i : Int, (¬ (a = 0 ∧ i = 34) ∧ a ≠ 20) → σ_124 a i = σ a i) → (σ_124 0 34 ≤ 3 + 4 * x5_60 + 2) → V 124 [some (ZR 0), some (ZI o), some (ZI bits), none, some (ZI 0), some (ZI x5_60), some (ZI r100)] [] 41 σ_124 := by
                    intro σ_124 hσ_124 hFσ_124 hi124_0
                    show V 124 [some (ZR 0), some (ZI o), some (ZI bits), none, some (ZI 0), some (ZI x5_60), some (ZI r100)] [] 41 σ_124
                    refine zr_iload (pc := 124) hV dX12_writeLine_124 rfl ?_
                    refine zr_bipush (pc := 126) hV 9 dX12_writeLine_126 (by decide) ?_
                    have J146 : ∀ (σ_146 : zq_S), (zx_T σ_146) → (∀ a i : Int, (¬ (a = 0 ∧ i = 34) ∧ a ≠ 20) → σ_146 a i = σ a i) → (σ_146 0 34 ≤ 3 + 4 * x5_60 + 3) → V 146 [some (ZR 0), some (ZI o), some (ZI bits), none, some (ZI 0), some (ZI x5_60), some (ZI r100)] [] 41 σ_146 := by
                      intro σ_146 hσ_146 hFσ_146 hi146_0
                      show V 146 [some (ZR 0), some (ZI o), some (ZI bits), none, some (ZI 0), some (ZI x5_60), some (ZI r100)] [] 41 σ_146
                      refine zr_aload_n (pc := 146) hV dX12_writeLine_146 rfl rfl ?_
                      refine zr_bipush (pc := 147) hV 48 dX12_writeLine_147 (by decide) ?_
                      refine zr_iload (pc := 149) hV dX12_writeLine_149 rfl ?_
                      refine zr_bipush (pc := 151) hV 10 dX12_writeLine_151 (by decide) ?_
                      refine zr_irem (pc := 153) hV dX12_writeLine_153 ⟨by decide, by decide⟩ (by omega) ?_
                      have t12 := zq_rem_c (x := r100) 10 (by decide) (by omega)
                      refine zr_iadd (pc := 154) hV dX12_writeLine_154 ?_
                      have t13 := zx_g34 hσ_146
                      refine zr_callVv (pc := 155) hV [ZI (48 + (zq_rem r100 10))] (st := []) (c_X12_write (σ := σ_146) hσ_146 (48 + (zq_rem r100 10)) (by omega) (by omega)) dX12_writeLine_155 mX12_399 rfl (by decide) (by decide) (Nat.le_of_ble_eq_true rfl) (Nat.le_refl _) (fun σ155 pσ155 => ?_)
                      obtain ⟨hσ155, hfσ155, pσ155⟩ := pσ155
                      have hFσ155 : ∀ a i : Int, (¬ (a = 0 ∧ i = 34) ∧ a ≠ 20) → σ155 a i = σ a i := fun a i h => (hfσ155 a i ⟨h.1, h.2⟩).trans (hFσ_146 a i h)
                      have t14 := zx_g34 hσ_146
                      have t15 := zx_g34 hσ155
                      show V 158 [some (ZR 0), some (ZI o), some (ZI bits), none, some (ZI 0), some (ZI x5_60), some (ZI r100)] [] 41 σ155
                      refine zr_iinc (pc := 158) hV [some (ZR 0), some (ZI o), some (ZI bits), none, some (ZI 0), some (ZI (x5_60 + 1)), some (ZI r100)] (x5_60 + 1) dX12_writeLine_158 rfl rfl (by decide) rfl rfl ?_
                      refine zr_goto (pc := 161) hV 60 dX12_writeLine_161 (by decide) ?_
                      have t16 := zx_g34 hσ155
                      refine zr_sub (pc := 60) hV [some (ZR 0), some (ZI o), some (ZI bits), none, some (ZI 0), some (ZI (x5_60 + 1)), none] (⟨rfl, rfl, rfl, rfl, rfl, trivial⟩) ?_
                      exact ih60 0 (x5_60 + 1) σ155 (by omega) (by omega) hσ155 hFσ155 (by omega) (by omega)
                    refine zr_icmp_le (pc := 128) hV 146 dX12_writeLine_128 (by decide) (by omega) ⟨by decide, by decide⟩ (fun c17 => ?_) (fun c17 => ?_)
                    · have t18 := zx_g34 hσ_124
                      exact J146 σ_124 hσ_124 hFσ_124 (by omega)
                    · show V 131 [some (ZR 0), some (ZI o), some (ZI bits), none, some (ZI 0), some (ZI x5_60), some (ZI r100)] [] 41 σ_124
                      refine zr_aload_n (pc := 131) hV dX12_writeLine_131 rfl rfl ?_
                      refine zr_bipush (pc := 132) hV 48 dX12_writeLine_132 (by decide) ?_
                      refine zr_iload (pc := 134) hV dX12_writeLine_134 rfl ?_
                      refine zr_bipush (pc := 136) hV 10 dX12_writeLine_136 (by decide) ?_
                      refine zr_idiv (pc := 138) hV dX12_writeLine_138 ⟨by decide, by decide⟩ (by omega) ?_
                      have t19 := zq_div_c (x := r100) 10 (by decide) (by omega)
                      refine zr_bipush (pc := 139) hV 10 dX12_writeLine_139 (by decide) ?_
                      refine zr_irem (pc := 141) hV dX12_writeLine_141 ⟨by decide, by decide⟩ (by omega) ?_
                      have t20 := zq_rem_c (x := zq_div r100 10) 10 (by decide) (by omega)
                      refine zr_iadd (pc := 142) hV dX12_writeLine_142 ?_
                      have t21 := zx_g34 hσ_124
                      refine zr_callVv (pc := 143) hV [ZI (48 + (zq_rem (zq_div r100 10) 10))] (st := []) (c_X12_write (σ := σ_124) hσ_124 (48 + (zq_rem (zq_div r100 10) 10)) (by omega) (by omega)) dX12_writeLine_143 mX12_399 rfl (by decide) (by decide) (Nat.le_of_ble_eq_true rfl) (Nat.le_refl _) (fun σ143 pσ143 => ?_)
                      obtain ⟨hσ143, hfσ143, pσ143⟩ := pσ143
                      have hFσ143 : ∀ a i : Int, (¬ (a = 0 ∧ i = 34) ∧ a ≠ 20) → σ143 a i = σ a i := fun a i h => (hfσ143 a i ⟨h.1, h.2⟩).trans (hFσ_124 a i h)
                      have t22 := zx_g34 hσ_124
                      have t23 := zx_g34 hσ143
                      have t24 := zx_g34 hσ143
                      exact J146 σ143 hσ143 hFσ143 (by omega)
                  refine zr_icmp_le (pc := 109) hV 124 dX12_writeLine_109 (by decide) (by omega) ⟨by decide, by decide⟩ (fun c25 => ?_) (fun c25 => ?_)
                  · have t26 := zx_g34 hσ89
                    exact J124 σ89 hσ89 hFσ89 (by omega)
                  · show V 112 [some (ZR 0), some (ZI o), some (ZI bits), none, some (ZI 0), some (ZI x5_60), some (ZI r100)] [] 41 σ89
                    refine zr_aload_n (pc := 112) hV dX12_writeLine_112 rfl rfl ?_
                    refine zr_bipush (pc := 113) hV 48 dX12_writeLine_113 (by decide) ?_
                    refine zr_iload (pc := 115) hV dX12_writeLine_115 rfl ?_
                    refine zr_bipush (pc := 117) hV 100 dX12_writeLine_117 (by decide) ?_
                    refine zr_idiv (pc := 119) hV dX12_writeLine_119 ⟨by decide, by decide⟩ (by omega) ?_
                    have t27 := zq_div_c (x := r100) 100 (by decide) (by omega)
                    refine zr_iadd (pc := 120) hV dX12_writeLine_120 ?_
                    have t28 := zx_g34 hσ89
                    refine zr_callVv (pc := 121) hV [ZI (48 + (zq_div r100 100))] (st := []) (c_X12_write (σ := σ89) hσ89 (48 + (zq_div r100 100)) (by omega) (by omega)) dX12_writeLine_121 mX12_399 rfl (by decide) (by decide) (Nat.le_of_ble_eq_true rfl) (Nat.le_refl _) (fun σ121 pσ121 => ?_)
                    obtain ⟨hσ121, hfσ121, pσ121⟩ := pσ121
                    have hFσ121 : ∀ a i : Int, (¬ (a = 0 ∧ i = 34) ∧ a ≠ 20) → σ121 a i = σ a i := fun a i h => (hfσ121 a i ⟨h.1, h.2⟩).trans (hFσ89 a i h)
                    have t29 := zx_g34 hσ89
                    have t30 := zx_g34 hσ121
                    have t31 := zx_g34 hσ121
                    exact J124 σ121 hσ121 hFσ121 (by omega)
                refine zr_if_eq (pc := 79) hV 87 dX12_writeLine_79 (by decide) (by omega) (fun c32 => ?_) (fun c32 => ?_)
                · show V 87 [some (ZR 0), some (ZI o), some (ZI bits), none, some (ZI x4_60), some (ZI x5_60), none] [ZR 0] 41 σ_60
                  refine zr_bipush (pc := 87) hV 44 dX12_writeLine_87 (by decide) ?_
                  refine zr_sub (pc := 89) hV [some (ZR 0), some (ZI o), some (ZI bits), none, none, some (ZI x5_60), none] (⟨rfl, rfl, rfl, rfl, trivial⟩) ?_
                  exact J89 44 (by omega)
                · show V 82 [some (ZR 0), some (ZI o), some (ZI bits), none, some (ZI x4_60), some (ZI x5_60), none] [ZR 0] 41 σ_60
                  refine zr_bipush (pc := 82) hV 32 dX12_writeLine_82 (by decide) ?_
                  refine zr_goto (pc := 84) hV 89 dX12_writeLine_84 (by decide) ?_
                  refine zr_sub (pc := 89) hV [some (ZR 0), some (ZI o), some (ZI bits), none, none, some (ZI x5_60), none] (⟨rfl, rfl, rfl, rfl, trivial⟩) ?_
                  exact J89 32 (by omega)
        have t33 := zx_g34 hσ_17
        refine zr_sub (pc := 60) hV [some (ZR 0), some (ZI o), some (ZI bits), none, some (ZI 1), some (ZI 0), none] (⟨rfl, rfl, rfl, rfl, rfl, trivial⟩) ?_
        exact L60 (4 - (0 : Int) + 1 : Int).toNat 1 0 σ_17 (by omega) (by omega) hσ_17 hFσ_17 (by omega) (by omega)
      · show V 22 [some (ZR 0), some (ZI o), some (ZI bits), some (ZI (σ2 1 o)), some (ZI x4_17), none, none] [] 41 σ_17
        refine zr_iload_n (pc := 22) hV dX12_writeLine_22 rfl rfl ?_
        refine zr_iload (pc := 23) hV dX12_writeLine_23 rfl ?_
        refine zr_icmp_lt (pc := 25) hV 44 dX12_writeLine_25 (by decide) (by omega) (by omega) (fun c34 => ?_) (fun c34 => ?_)
        · show V 44 [some (ZR 0), some (ZI o), some (ZI bits), some (ZI (σ2 1 o)), some (ZI x4_17), none, none] [] 41 σ_17
          refine zr_iload (pc := 44) hV dX12_writeLine_44 rfl ?_
          refine zr_bipush (pc := 46) hV 27 dX12_writeLine_46 (by decide) ?_
          refine zr_idiv (pc := 48) hV dX12_writeLine_48 ⟨by decide, by decide⟩ (by omega) ?_
          have t35 := zq_div_c (x := x4_17) 27 (by decide) (by omega)
          refine zr_istore (pc := 49) hV [some (ZR 0), some (ZI o), some (ZI bits), some (ZI (σ2 1 o)), some (ZI (zq_div x4_17 27)), none, none] dX12_writeLine_49 (by decide) rfl rfl ?_
          refine zr_goto (pc := 51) hV 17 dX12_writeLine_51 (by decide) ?_
          have t36 := zx_g34 hσ_17
          have t37 := zx_g34 hσ_17
          have t38 := zx_g34 hσ_17
          have t39 := zx_g34 hσ_17
          exact ih17 (zq_div x4_17 27) σ_17 (by omega) hσ_17 hFσ_17 (by omega) (by omega) (by omega) (by omega) (by omega) (by omega)
        · show V 28 [some (ZR 0), some (ZI o), some (ZI bits), some (ZI (σ2 1 o)), some (ZI x4_17), none, none] [] 41 σ_17
          refine zr_aload_n (pc := 28) hV dX12_writeLine_28 rfl rfl ?_
          refine zr_bipush (pc := 29) hV 97 dX12_writeLine_29 (by decide) ?_
          refine zr_iload_n (pc := 31) hV dX12_writeLine_31 rfl rfl ?_
          refine zr_iload (pc := 32) hV dX12_writeLine_32 rfl ?_
          refine zr_idiv (pc := 34) hV dX12_writeLine_34 (by omega) (by omega) ?_
          have t40 := zq_div_b (x := σ2 1 o) (y := x4_17) (by omega) (by omega)
          refine zr_bipush (pc := 35) hV 27 dX12_writeLine_35 (by decide) ?_
          refine zr_irem (pc := 37) hV dX12_writeLine_37 ⟨by decide, by decide⟩ (by omega) ?_
          have t41 := zq_rem_c (x := zq_div (σ2 1 o) x4_17) 27 (by decide) (by omega)
          refine zr_iadd (pc := 38) hV dX12_writeLine_38 ?_
          refine zr_iconst (pc := 39) hV 1 dX12_writeLine_39 rfl ?_
          refine zr_isub (pc := 40) hV dX12_writeLine_40 ?_
          have t42 := zx_g34 hσ_17
          refine zr_callVv (pc := 41) hV [ZI ((97 + (zq_rem (zq_div (σ2 1 o) x4_17) 27)) - 1)] (st := []) (c_X12_write (σ := σ_17) hσ_17 ((97 + (zq_rem (zq_div (σ2 1 o) x4_17) 27)) - 1) (by omega) (by omega)) dX12_writeLine_41 mX12_399 rfl (by decide) (by decide) (Nat.le_of_ble_eq_true rfl) (Nat.le_refl _) (fun σ41 pσ41 => ?_)
          obtain ⟨hσ41, hfσ41, pσ41⟩ := pσ41
          have hFσ41 : ∀ a i : Int, (¬ (a = 0 ∧ i = 34) ∧ a ≠ 20) → σ41 a i = σ a i := fun a i h => (hfσ41 a i ⟨h.1, h.2⟩).trans (hFσ_17 a i h)
          have t43 := zx_g34 hσ_17
          have t44 := zx_g34 hσ41
          show V 44 [some (ZR 0), some (ZI o), some (ZI bits), some (ZI (σ2 1 o)), some (ZI x4_17), none, none] [] 41 σ41
          refine zr_iload (pc := 44) hV dX12_writeLine_44 rfl ?_
          refine zr_bipush (pc := 46) hV 27 dX12_writeLine_46 (by decide) ?_
          refine zr_idiv (pc := 48) hV dX12_writeLine_48 ⟨by decide, by decide⟩ (by omega) ?_
          have t45 := zq_div_c (x := x4_17) 27 (by decide) (by omega)
          refine zr_istore (pc := 49) hV [some (ZR 0), some (ZI o), some (ZI bits), some (ZI (σ2 1 o)), some (ZI (zq_div x4_17 27)), none, none] dX12_writeLine_49 (by decide) rfl rfl ?_
          refine zr_goto (pc := 51) hV 17 dX12_writeLine_51 (by decide) ?_
          have t46 := zx_g34 hσ41
          have t47 := zx_g34 hσ41
          have t48 := zx_g34 hσ41
          have t49 := zx_g34 hσ41
          exact ih17 (zq_div x4_17 27) σ41 (by omega) hσ41 hFσ41 (by omega) (by omega) (by omega) (by omega) (by omega) (by omega)
  have t50 := zx_g34 hσ2
  have t51 : σ2 0 34 = 0 := by rw [eσ2]; exact zq_up_same _ _ _ _
  have t52 := zx_g34 hσ2
  have t53 : σ2 0 34 = 0 := by rw [eσ2]; exact zq_up_same _ _ _ _
  have t54 := zx_g34 hσ2
  have t55 : σ2 0 34 = 0 := by rw [eσ2]; exact zq_up_same _ _ _ _
  have t56 := zx_g34 hσ2
  have t57 : σ2 0 34 = 0 := by rw [eσ2]; exact zq_up_same _ _ _ _
  exact L17 ((729 : Int) + 1 : Int).toNat 729 σ2 (by omega) hσ2 hFσ2 (by omega) (by omega) (by omega) (by omega) (by omega) (by omega)
set_option maxHeartbeats 800000 in
theorem c_X12_readLine {σ : zq_S} (hσ : zx_T σ)  : zq_C zx_w yX12_readLine cX12_readLine 5 (some .int) 2 49 41 41 [ZR 0] σ (zq_pi (fun r τ => zx_T τ ∧ (∀ a i : Int, (¬ (a = 0 ∧ i = 15) ∧ ¬ (a = 0 ∧ i = 16) ∧ a ≠ 19) → τ a i = σ a i) ∧ (-1 ≤ r ∧ r ≤ 19))) := by
  refine zq_C_of (by decide) (Nat.le_refl _) (Nat.le_of_ble_eq_true rfl) [some (ZR 0), none, none, none, none] rfl (fun V hV => ?_)
  show V 0 [some (ZR 0), none, none, none, none] [] 41 σ
  refine zr_aload_n (pc := 0) hV dX12_readLine_0 rfl rfl ?_
  refine zr_iconst (pc := 1) hV 0 dX12_readLine_1 rfl ?_
  refine zr_putI (pc := 2) hV 15 dX12_readLine_2 fX12_200 rfl rfl rfl rfl (by decide) (fun σ2 eσ2 => ?_)
  have hσ2 : zx_T σ2 := zx_u15 eσ2 hσ (by omega)
  have hFσ2 : ∀ a i : Int, (¬ (a = 0 ∧ i = 15) ∧ ¬ (a = 0 ∧ i = 16) ∧ a ≠ 19) → σ2 a i = σ a i := fun a i h => by rw [eσ2, zq_up_ne h.1]
  refine zr_aload_n (pc := 5) hV dX12_readLine_5 rfl rfl ?_
  refine zr_callVi (pc := 6) hV [] (st := []) (c_X12_readName (σ := σ2) hσ2 ) dX12_readLine_6 mX12_218 rfl (by decide) (by decide) (Nat.le_of_ble_eq_true rfl) (Nat.le_refl _) (fun r6 σ6 hr6 pσ6 => ?_)
  obtain ⟨hσ6, hfσ6, pσ6⟩ := pσ6
  have hFσ6 : ∀ a i : Int, (¬ (a = 0 ∧ i = 15) ∧ ¬ (a = 0 ∧ i = 16) ∧ a ≠ 19) → σ6 a i = σ a i := fun a i h => (hfσ6 a i ⟨h.1, h.2.1⟩).trans (hFσ2 a i h)
  refine zr_istore_n (pc := 9) hV [some (ZR 0), some (ZI r6), none, none, none] dX12_readLine_9 rfl (by decide) rfl rfl ?_
  refine zr_iload_n (pc := 10) hV dX12_readLine_10 rfl rfl ?_
  refine zr_if_ne (pc := 11) hV 18 dX12_readLine_11 (by decide) (by omega) (fun c1 => ?_) (fun c1 => ?_)
  · show V 18 [some (ZR 0), some (ZI r6), none, none, none] [] 41 σ6
    refine zr_aload_n (pc := 18) hV dX12_readLine_18 rfl rfl ?_
    refine zr_iload_n (pc := 19) hV dX12_readLine_19 rfl rfl ?_
    refine zr_callVp (pc := 20) hV [ZI r6] (st := []) (c_X12_named (σ := σ6) hσ6 r6 (by omega)) dX12_readLine_20 mX12_221 rfl (by decide) (by decide) (Nat.le_of_ble_eq_true rfl) (Nat.le_refl _) (fun r20 hr20 pr20 => ?_)
    have t2 := zx_g3 hσ6
    have t3 : σ6 0 3 = σ2 0 3 := hfσ6 _ _ (by omega)
    have t4 : σ2 0 3 = σ 0 3 := by rw [eσ2]; exact zq_up_ne (by omega)
    show V 23 [some (ZR 0), some (ZI r6), none, none, none] [ZI r20] 41 σ6
    refine zr_istore_n (pc := 23) hV [some (ZR 0), some (ZI r6), some (ZI r20), none, none] dX12_readLine_23 rfl (by decide) rfl rfl ?_
    refine zr_iload_n (pc := 24) hV dX12_readLine_24 rfl rfl ?_
    refine zr_if_ge (pc := 25) hV 38 dX12_readLine_25 (by decide) (by omega) (fun c5 => ?_) (fun c5 => ?_)
    · show V 38 [some (ZR 0), some (ZI r6), some (ZI r20), none, none] [] 41 σ6
      refine zr_iconst (pc := 38) hV 1 dX12_readLine_38 rfl ?_
      refine zr_istore_n (pc := 39) hV [some (ZR 0), some (ZI r6), some (ZI r20), some (ZI 1), none] dX12_readLine_39 rfl (by decide) rfl rfl ?_
      refine zr_iconst (pc := 40) hV 0 dX12_readLine_40 rfl ?_
      refine zr_istore (pc := 41) hV [some (ZR 0), some (ZI r6), some (ZI r20), some (ZI 1), some (ZI 0)] dX12_readLine_41 (by decide) rfl rfl ?_
      have L43 : ∀ (fuel : Nat) (x3_43 : Int) (x4_43 : Int) (σ_43 : zq_S), (0 ≤ x3_43 ∧ x3_43 ≤ 1) → (0 ≤ x4_43 ∧ x4_43 ≤ 4) → (zx_T σ_43) → (∀ a i : Int, (¬ (a = 0 ∧ i = 15) ∧ ¬ (a = 0 ∧ i = 16) ∧ a ≠ 19) → σ_43 a i = σ a i) → 4 - x4_43 < (fuel : Int) → V 43 [some (ZR 0), none, some (ZI r20), some (ZI x3_43), some (ZI x4_43)] [] 41 σ_43 := by
        intro fuel
        induction fuel with
        | zero =>
          intro x3_43 x4_43 σ_43 hx3_43 hx4_43 hσ_43 hFσ_43 hm43
          exfalso; omega
        | succ fuel ih =>
          intro x3_43 x4_43 σ_43 hx3_43 hx4_43 hσ_43 hFσ_43 hm43
          have ih43 := ih
          show V 43 [some (ZR 0), none, some (ZI r20), some (ZI x3_43), some (ZI x4_43)] [] 41 σ_43
          refine zr_iload (pc := 43) hV dX12_readLine_43 rfl ?_
          refine zr_iconst (pc := 45) hV 4 dX12_readLine_45 rfl ?_
          refine zr_icmp_ge (pc := 46) hV 116 dX12_readLine_46 (by decide) (by omega) ⟨by decide, by decide⟩ (fun c6 => ?_) (fun c6 => ?_)
          · show V 116 [some (ZR 0), none, some (ZI r20), some (ZI x3_43), some (ZI x4_43)] [] 41 σ_43
            refine zr_aload_n (pc := 116) hV dX12_readLine_116 rfl rfl ?_
            refine zr_callVi (pc := 117) hV [] (st := []) (c_X12_next (σ := σ_43) hσ_43 ) dX12_readLine_117 mX12_203 rfl (by decide) (by decide) (Nat.le_of_ble_eq_true rfl) (Nat.le_refl _) (fun r117 σ117 hr117 pσ117 => ?_)
            obtain ⟨hσ117, hfσ117, pσ117, wσ117⟩ := pσ117
            have hFσ117 : ∀ a i : Int, (¬ (a = 0 ∧ i = 15) ∧ ¬ (a = 0 ∧ i = 16) ∧ a ≠ 19) → σ117 a i = σ a i := fun a i h => (hfσ117 a i h.1).trans (hFσ_43 a i h)
            have t7 := zx_g14 hσ_43
            have t8 : σ_43 0 14 = σ 0 14 := hFσ_43 _ _ (by omega)
            have t9 := zx_g15 hσ_43
            have t10 := zx_g15 hσ117
            refine zr_if_ge (pc := 120) hV 127 dX12_readLine_120 (by decide) (by omega) (fun c11 => ?_) (fun c11 => ?_)
            · show V 127 [some (ZR 0), none, some (ZI r20), some (ZI x3_43), some (ZI x4_43)] [] 41 σ117
              refine zr_iconst (pc := 127) hV (-1) dX12_readLine_127 rfl ?_
              show V 128 [some (ZR 0), none, some (ZI r20), some (ZI x3_43), some (ZI x4_43)] [ZI (-1)] 41 σ117
              exact zr_iret (pc := 128) hV dX12_readLine_128 rfl rfl ⟨_, rfl, ⟨by decide, by decide⟩, hσ117, hFσ117, (by omega)⟩
            · show V 123 [some (ZR 0), none, some (ZI r20), some (ZI x3_43), some (ZI x4_43)] [] 41 σ117
              refine zr_iload_n (pc := 123) hV dX12_readLine_123 rfl rfl ?_
              refine zr_goto (pc := 124) hV 128 dX12_readLine_124 (by decide) ?_
              show V 128 [some (ZR 0), none, some (ZI r20), some (ZI x3_43), some (ZI x4_43)] [ZI r20] 41 σ117
              exact zr_iret (pc := 128) hV dX12_readLine_128 rfl rfl ⟨_, rfl, (by omega), hσ117, hFσ117, (by omega)⟩
          · show V 49 [some (ZR 0), none, some (ZI r20), some (ZI x3_43), some (ZI x4_43)] [] 41 σ_43
            refine zr_aload_n (pc := 49) hV dX12_readLine_49 rfl rfl ?_
            refine zr_iload_n (pc := 50) hV dX12_readLine_50 rfl rfl ?_
            refine zr_iload (pc := 51) hV dX12_readLine_51 rfl ?_
            refine zr_callVp (pc := 53) hV [ZI r20, ZI x4_43] (st := []) (c_X12_hasField (σ := σ_43) hσ_43 r20 x4_43 (by omega) (by omega)) dX12_readLine_53 mX12_188 rfl (by decide) (by decide) (Nat.le_of_ble_eq_true rfl) (Nat.le_refl _) (fun r53 hr53 pr53 => ?_)
            have t12 := zx_g2 hσ_43
            have t13 : σ_43 0 2 = σ 0 2 := hFσ_43 _ _ (by omega)
            refine zr_if_eq (pc := 56) hV 110 dX12_readLine_56 (by decide) (by omega) (fun c14 => ?_) (fun c14 => ?_)
            · show V 110 [some (ZR 0), none, some (ZI r20), some (ZI x3_43), some (ZI x4_43)] [] 41 σ_43
              refine zr_iinc (pc := 110) hV [some (ZR 0), none, some (ZI r20), some (ZI x3_43), some (ZI (x4_43 + 1))] (x4_43 + 1) dX12_readLine_110 rfl rfl (by decide) rfl rfl ?_
              refine zr_goto (pc := 113) hV 43 dX12_readLine_113 (by decide) ?_
              exact ih43 x3_43 (x4_43 + 1) σ_43 (by omega) (by omega) hσ_43 hFσ_43 (by omega)
            · show V 59 [some (ZR 0), none, some (ZI r20), some (ZI x3_43), some (ZI x4_43)] [] 41 σ_43
              refine zr_iload_n (pc := 59) hV dX12_readLine_59 rfl rfl ?_
              have J74 : ∀ (σ_74 : zq_S), (zx_T σ_74) → (∀ a i : Int, (¬ (a = 0 ∧ i = 15) ∧ ¬ (a = 0 ∧ i = 16) ∧ a ≠ 19) → σ_74 a i = σ a i) → V 74 [some (ZR 0), none, some (ZI r20), none, some (ZI x4_43)] [] 41 σ_74 := by
                intro σ_74 hσ_74 hFσ_74
                show V 74 [some (ZR 0), none, some (ZI r20), none, some (ZI x4_43)] [] 41 σ_74
                refine zr_iconst (pc := 74) hV 0 dX12_readLine_74 rfl ?_
                refine zr_istore_n (pc := 75) hV [some (ZR 0), none, some (ZI r20), some (ZI 0), some (ZI x4_43)] dX12_readLine_75 rfl (by decide) rfl rfl ?_
                refine zr_aload_n (pc := 76) hV dX12_readLine_76 rfl rfl ?_
                refine zr_getR (pc := 77) hV 32 19 dX12_readLine_77 fX12_78 rfl rfl rfl (by decide) (zx_g32 hσ_74) (by omega) ?_
                refine zr_iload (pc := 80) hV dX12_readLine_80 rfl ?_
                refine zr_aload_n (pc := 82) hV dX12_readLine_82 rfl rfl ?_
                refine zr_iconst (pc := 83) hV 1 dX12_readLine_83 rfl ?_
                refine zr_aload_n (pc := 84) hV dX12_readLine_84 rfl rfl ?_
                refine zr_iload_n (pc := 85) hV dX12_readLine_85 rfl rfl ?_
                refine zr_iload (pc := 86) hV dX12_readLine_86 rfl ?_
                refine zr_callVp (pc := 88) hV [ZI r20, ZI x4_43] (st := [ZI 1, ZR 0, ZI x4_43, ZR 19]) (c_X12_fieldBits (σ := σ_74) hσ_74 r20 x4_43 (by omega) (by omega)) dX12_readLine_88 mX12_184 rfl (by decide) (by decide) (Nat.le_of_ble_eq_true rfl) (Nat.le_refl _) (fun r88 hr88 pr88 => ?_)
                have t15 := zx_g2 hσ_74
                have t16 : σ_74 0 2 = σ 0 2 := hFσ_74 _ _ (by omega)
                refine zr_ishl (pc := 91) hV dX12_readLine_91 ?_
                have t17 := zx_shl_one (y := r88) 12 4096 (by decide) (by decide) (by omega)
                refine zr_iconst (pc := 92) hV 1 dX12_readLine_92 rfl ?_
                refine zr_isub (pc := 93) hV dX12_readLine_93 ?_
                refine zr_callVi (pc := 94) hV [ZI ((zq_shl 1 r88) - 1)] (st := [ZI x4_43, ZR 19]) (c_X12_number (σ := σ_74) hσ_74 ((zq_shl 1 r88) - 1) (by omega)) dX12_readLine_94 mX12_238 rfl (by decide) (by decide) (Nat.le_of_ble_eq_true rfl) (Nat.le_refl _) (fun r94 σ94 hr94 pσ94 => ?_)
                obtain ⟨hσ94, hfσ94, pσ94⟩ := pσ94
                have hFσ94 : ∀ a i : Int, (¬ (a = 0 ∧ i = 15) ∧ ¬ (a = 0 ∧ i = 16) ∧ a ≠ 19) → σ94 a i = σ a i := fun a i h => (hfσ94 a i h.1).trans (hFσ_74 a i h)
                have t18 := zx_g15 hσ_74
                have t19 := zx_g15 hσ94
                refine zr_iast (pc := 97) hV dX12_readLine_97 rfl (by decide) rfl (by omega) (fun σ97 eσ97 => ?_)
                have hσ97 : zx_T σ97 := zx_ua19 eσ97 hσ94 (by omega)
                have hFσ97 : ∀ a i : Int, (¬ (a = 0 ∧ i = 15) ∧ ¬ (a = 0 ∧ i = 16) ∧ a ≠ 19) → σ97 a i = σ a i := fun a i h => by rw [eσ97, zq_up_ne (fun q => h.2.2 q.1)]; exact hFσ94 a i h
                refine zr_aload_n (pc := 98) hV dX12_readLine_98 rfl rfl ?_
                refine zr_getR (pc := 99) hV 32 19 dX12_readLine_99 fX12_78 rfl rfl rfl (by decide) (zx_g32 hσ97) (by omega) ?_
                refine zr_iload (pc := 102) hV dX12_readLine_102 rfl ?_
                refine zr_iald (pc := 104) hV dX12_readLine_104 rfl (by decide) rfl (by omega) ?_
                have t20 := zx_ga19 hσ97 x4_43
                have t21 : σ97 19 x4_43 = r94 := by rw [eσ97]; exact zq_up_same _ _ _ _
                refine zr_if_ge (pc := 105) hV 110 dX12_readLine_105 (by decide) (by omega) (fun c22 => ?_) (fun c22 => ?_)
                · show V 110 [some (ZR 0), none, some (ZI r20), some (ZI 0), some (ZI x4_43)] [] 41 σ97
                  refine zr_iinc (pc := 110) hV [some (ZR 0), none, some (ZI r20), some (ZI 0), some (ZI (x4_43 + 1))] (x4_43 + 1) dX12_readLine_110 rfl rfl (by decide) rfl rfl ?_
                  refine zr_goto (pc := 113) hV 43 dX12_readLine_113 (by decide) ?_
                  exact ih43 0 (x4_43 + 1) σ97 (by omega) (by omega) hσ97 hFσ97 (by omega)
                · show V 108 [some (ZR 0), none, some (ZI r20), some (ZI 0), some (ZI x4_43)] [] 41 σ97
                  refine zr_iconst (pc := 108) hV (-1) dX12_readLine_108 rfl ?_
                  exact zr_iret (pc := 109) hV dX12_readLine_109 rfl rfl ⟨_, rfl, ⟨by decide, by decide⟩, hσ97, hFσ97, (by omega)⟩
              refine zr_if_ne (pc := 60) hV 74 dX12_readLine_60 (by decide) (by omega) (fun c23 => ?_) (fun c23 => ?_)
              · refine zr_sub (pc := 74) hV [some (ZR 0), none, some (ZI r20), none, some (ZI x4_43)] (⟨rfl, rfl, rfl, trivial⟩) ?_
                exact J74 σ_43 hσ_43 hFσ_43
              · show V 63 [some (ZR 0), none, some (ZI r20), some (ZI x3_43), some (ZI x4_43)] [] 41 σ_43
                refine zr_aload_n (pc := 63) hV dX12_readLine_63 rfl rfl ?_
                refine zr_bipush (pc := 64) hV 44 dX12_readLine_64 (by decide) ?_
                refine zr_callVi (pc := 66) hV [ZI 44] (st := []) (c_X12_takes (σ := σ_43) hσ_43 44 (by omega)) dX12_readLine_66 mX12_234 rfl (by decide) (by decide) (Nat.le_of_ble_eq_true rfl) (Nat.le_refl _) (fun r66 σ66 hr66 pσ66 => ?_)
                obtain ⟨hσ66, hfσ66, pσ66⟩ := pσ66
                have hFσ66 : ∀ a i : Int, (¬ (a = 0 ∧ i = 15) ∧ ¬ (a = 0 ∧ i = 16) ∧ a ≠ 19) → σ66 a i = σ a i := fun a i h => (hfσ66 a i h.1).trans (hFσ_43 a i h)
                have t24 := zx_g15 hσ_43
                have t25 := zx_g15 hσ66
                refine zr_if_ne (pc := 69) hV 74 dX12_readLine_69 (by decide) (by omega) (fun c26 => ?_) (fun c26 => ?_)
                · refine zr_sub (pc := 74) hV [some (ZR 0), none, some (ZI r20), none, some (ZI x4_43)] (⟨rfl, rfl, rfl, trivial⟩) ?_
                  exact J74 σ66 hσ66 hFσ66
                · show V 72 [some (ZR 0), none, some (ZI r20), some (ZI x3_43), some (ZI x4_43)] [] 41 σ66
                  refine zr_iconst (pc := 72) hV (-1) dX12_readLine_72 rfl ?_
                  exact zr_iret (pc := 73) hV dX12_readLine_73 rfl rfl ⟨_, rfl, ⟨by decide, by decide⟩, hσ66, hFσ66, (by omega)⟩
      refine zr_sub (pc := 43) hV [some (ZR 0), none, some (ZI r20), some (ZI 1), some (ZI 0)] (⟨rfl, rfl, rfl, rfl, trivial⟩) ?_
      exact L43 (4 - (0 : Int) + 1 : Int).toNat 1 0 σ6 (by omega) (by omega) hσ6 hFσ6 (by omega)
    · show V 28 [some (ZR 0), some (ZI r6), some (ZI r20), none, none] [] 41 σ6
      refine zr_aload_n (pc := 28) hV dX12_readLine_28 rfl rfl ?_
      refine zr_aload_n (pc := 29) hV dX12_readLine_29 rfl rfl ?_
      refine zr_getI (pc := 30) hV 16 dX12_readLine_30 fX12_211 rfl rfl rfl (by decide) ?_
      have t27 := zx_g16 hσ6
      refine zr_putI (pc := 33) hV 15 dX12_readLine_33 fX12_200 rfl rfl rfl rfl (by decide) (fun σ33 eσ33 => ?_)
      have hσ33 : zx_T σ33 := zx_u15 eσ33 hσ6 (by omega)
      have hFσ33 : ∀ a i : Int, (¬ (a = 0 ∧ i = 15) ∧ ¬ (a = 0 ∧ i = 16) ∧ a ≠ 19) → σ33 a i = σ a i := fun a i h => by rw [eσ33, zq_up_ne h.1]; exact hFσ6 a i h
      refine zr_iconst (pc := 36) hV (-1) dX12_readLine_36 rfl ?_
      exact zr_iret (pc := 37) hV dX12_readLine_37 rfl rfl ⟨_, rfl, ⟨by decide, by decide⟩, hσ33, hFσ33, (by omega)⟩
  · show V 14 [some (ZR 0), some (ZI r6), none, none, none] [] 41 σ6
    refine zr_iconst (pc := 14) hV (-1) dX12_readLine_14 rfl ?_
    refine zr_goto (pc := 15) hV 23 dX12_readLine_15 (by decide) ?_
    show V 23 [some (ZR 0), some (ZI r6), none, none, none] [ZI (-1)] 41 σ6
    refine zr_istore_n (pc := 23) hV [some (ZR 0), some (ZI r6), some (ZI (-1)), none, none] dX12_readLine_23 rfl (by decide) rfl rfl ?_
    refine zr_iload_n (pc := 24) hV dX12_readLine_24 rfl rfl ?_
    refine zr_if_ge (pc := 25) hV 38 dX12_readLine_25 (by decide) ⟨by decide, by decide⟩ (fun c28 => ?_) (fun c28 => ?_)
    · exfalso; omega
    · show V 28 [some (ZR 0), some (ZI r6), some (ZI (-1)), none, none] [] 41 σ6
      refine zr_aload_n (pc := 28) hV dX12_readLine_28 rfl rfl ?_
      refine zr_aload_n (pc := 29) hV dX12_readLine_29 rfl rfl ?_
      refine zr_getI (pc := 30) hV 16 dX12_readLine_30 fX12_211 rfl rfl rfl (by decide) ?_
      have t29 := zx_g16 hσ6
      refine zr_putI (pc := 33) hV 15 dX12_readLine_33 fX12_200 rfl rfl rfl rfl (by decide) (fun σ33 eσ33 => ?_)
      have hσ33 : zx_T σ33 := zx_u15 eσ33 hσ6 (by omega)
      have hFσ33 : ∀ a i : Int, (¬ (a = 0 ∧ i = 15) ∧ ¬ (a = 0 ∧ i = 16) ∧ a ≠ 19) → σ33 a i = σ a i := fun a i h => by rw [eσ33, zq_up_ne h.1]; exact hFσ6 a i h
      refine zr_iconst (pc := 36) hV (-1) dX12_readLine_36 rfl ?_
      exact zr_iret (pc := 37) hV dX12_readLine_37 rfl rfl ⟨_, rfl, ⟨by decide, by decide⟩, hσ33, hFσ33, (by omega)⟩
