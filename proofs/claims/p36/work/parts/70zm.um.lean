set_option maxHeartbeats 800000 in
theorem c_X12_put2 {σ : zq_S} (hσ : zx_T σ) (place bits : Int) (q0 : zq_in place) (q1 : zq_in bits) (Kσ : zx_K σ) : zq_C zx_w yX12_put cX12_put 4 (some .int) 2 46 41 41 [ZR 0, ZI place, ZI bits] σ (zq_pi (fun r τ => zx_T τ ∧ (∀ a i : Int, (a ≠ 14) → τ a i = σ a i) ∧ (True) ∧ zq_hid (zu_pt place bits (zx_p2 (σ 0 2)) r (σ 14) (τ 14)) ∧ zx_K τ)) := by
  refine zq_C_of (by decide) (Nat.le_refl _) (Nat.le_of_ble_eq_true rfl) [some (ZR 0), some (ZI place), some (ZI bits), none] rfl (fun V hV => ?_)
  show V 0 [some (ZR 0), some (ZI place), some (ZI bits), none] [] 41 σ
  refine zr_iload_n (pc := 0) hV dX12_put_0 rfl rfl ?_
  refine zr_i2l (pc := 1) hV dX12_put_1 (by omega) ?_
  refine zr_lconst (pc := 2) hV 0 dX12_put_2 (by decide) ?_
  refine zr_ldc2 (pc := 3) (v := 63) hV 63 dX12_put_3 kX12_344 (by decide) ?_
  refine zr_callSp (pc := 6) hV [ZL place, ZL 0, ZL 63] (st := []) (c_X12_in (σ := σ) place 0 63 (by omega) (by omega) (by omega)) dX12_put_6 mX12_170 (by decide) (Nat.le_of_ble_eq_true rfl) (Nat.le_refl _) (fun r6 hr6 pr6 => ?_)
  refine zr_if_eq (pc := 9) hV 20 dX12_put_9 (by decide) (by omega) (fun c1 => ?_) (fun c1 => ?_)
  · show V 20 [some (ZR 0), some (ZI place), some (ZI bits), none] [] 41 σ
    refine zr_iconst (pc := 20) hV (-1) dX12_put_20 rfl ?_
    exact zr_iret (pc := 21) hV dX12_put_21 rfl rfl ⟨_, rfl, ⟨by decide, by decide⟩, hσ, (fun a i _ => rfl), trivial, (show zu_pt place bits (zx_p2 (σ 0 2)) ((-1) : Int) (σ 14) (σ 14) from ⟨fun h => absurd h (by omega), fun _ => ⟨rfl, fun _ => rfl⟩⟩), Kσ⟩
  · show V 12 [some (ZR 0), some (ZI place), some (ZI bits), none] [] 41 σ
    refine zr_aload_n (pc := 12) hV dX12_put_12 rfl rfl ?_
    refine zr_iload_n (pc := 13) hV dX12_put_13 rfl rfl ?_
    refine zr_callVp (pc := 14) hV [ZI bits] (st := []) (c_X12_isBits2 (σ := σ) hσ bits (by omega)) dX12_put_14 mX12_280 rfl (by decide) (by decide) (Nat.le_of_ble_eq_true rfl) (Nat.le_refl _) (fun r14 hr14 pr14 => ?_)
    have t2 := zx_g2 hσ
    refine zr_if_ne (pc := 17) hV 22 dX12_put_17 (by decide) (by omega) (fun c3 => ?_) (fun c3 => ?_)
    · show V 22 [some (ZR 0), some (ZI place), some (ZI bits), none] [] 41 σ
      refine zr_aload_n (pc := 22) hV dX12_put_22 rfl rfl ?_
      refine zr_getR (pc := 23) hV 23 14 dX12_put_23 fX12_59 rfl rfl rfl (by decide) (zx_g23 hσ) (by omega) ?_
      refine zr_iload_n (pc := 26) hV dX12_put_26 rfl rfl ?_
      refine zr_iald (pc := 27) hV dX12_put_27 rfl (by decide) rfl (by omega) ?_
      have t4 := zx_ga14 hσ place
      refine zr_istore_n (pc := 28) hV [some (ZR 0), some (ZI place), some (ZI bits), some (ZI (σ 14 place))] dX12_put_28 rfl (by decide) rfl rfl ?_
      refine zr_aload_n (pc := 29) hV dX12_put_29 rfl rfl ?_
      refine zr_getR (pc := 30) hV 23 14 dX12_put_30 fX12_59 rfl rfl rfl (by decide) (zx_g23 hσ) (by omega) ?_
      refine zr_iload_n (pc := 33) hV dX12_put_33 rfl rfl ?_
      refine zr_iload_n (pc := 34) hV dX12_put_34 rfl rfl ?_
      refine zr_iast (pc := 35) hV dX12_put_35 rfl (by decide) rfl (by omega) (fun σ35 eσ35 => ?_)
      have hσ35 : zx_T σ35 := zx_ua14 eσ35 hσ (by omega)
      have hFσ35 : ∀ a i : Int, (a ≠ 14) → σ35 a i = σ a i := fun a i h => by rw [eσ35, zq_up_ne (fun q => h q.1)]
      have Kσ35 : zx_K σ35 := zx_K_up Kσ eσ35 (by omega)
      refine zr_iload_n (pc := 36) hV dX12_put_36 rfl rfl ?_
      exact zr_iret (pc := 37) hV dX12_put_37 rfl rfl ⟨_, rfl, (by omega), hσ35, hFσ35, trivial, (show zu_pt place bits (zx_p2 (σ 0 2)) (σ 14 place) (σ 14) (σ35 14) from ⟨fun _ => ⟨rfl, fun i => if hc : i = place then (by rw [hc, eσ35, zq_up_same, if_pos rfl]) else (by rw [eσ35, zq_up_ne (by omega), if_neg hc])⟩, fun h => absurd (by omega) h⟩), Kσ35⟩
    · show V 20 [some (ZR 0), some (ZI place), some (ZI bits), none] [] 41 σ
      refine zr_iconst (pc := 20) hV (-1) dX12_put_20 rfl ?_
      exact zr_iret (pc := 21) hV dX12_put_21 rfl rfl ⟨_, rfl, ⟨by decide, by decide⟩, hσ, (fun a i _ => rfl), trivial, (show zu_pt place bits (zx_p2 (σ 0 2)) ((-1) : Int) (σ 14) (σ 14) from ⟨fun h => absurd h (by omega), fun _ => ⟨rfl, fun _ => rfl⟩⟩), Kσ⟩
set_option maxHeartbeats 800000 in
theorem c_X12_load2 {σ : zq_S} (hσ : zx_T σ) (sheet lane from_ place n : Int) (q0 : zq_in sheet) (q1 : zq_in lane) (q2 : zq_in from_) (q3 : zq_in place) (q4 : zq_in n) (Kσ : zx_K σ) : zq_C zx_w yX12_load cX12_load 9 (some .int) 2 49 41 41 [ZR 0, ZI sheet, ZI lane, ZI from_, ZI place, ZI n] σ (zq_pi (fun r τ => zx_T τ ∧ (∀ a i : Int, (a ≠ 14) → τ a i = σ a i) ∧ (True) ∧ zq_hid (zu_lc sheet lane from_ place n (zx_p2 (σ 0 2)) (σ 38) (σ 39) (fun i => σ 40 (30 * sheet + i)) (σ 14) (τ 14)) ∧ zx_K τ)) := by
  refine zq_C_of (by decide) (Nat.le_refl _) (Nat.le_of_ble_eq_true rfl) [some (ZR 0), some (ZI sheet), some (ZI lane), some (ZI from_), some (ZI place), some (ZI n), none, none, none] rfl (fun V hV => ?_)
  have z2 := zx_g2 hσ
  show V 0 [some (ZR 0), some (ZI sheet), some (ZI lane), some (ZI from_), some (ZI place), some (ZI n), none, none, none] [] 41 σ
  refine zr_iload_n (pc := 0) hV dX12_load_0 rfl rfl ?_
  refine zr_iload_n (pc := 1) hV dX12_load_1 rfl rfl ?_
  refine zr_callSp (pc := 2) hV [ZI sheet, ZI lane] (st := []) (c_X12_isSheet (σ := σ) sheet lane (by omega) (by omega)) dX12_load_2 mX12_480 (by decide) (Nat.le_of_ble_eq_true rfl) (Nat.le_refl _) (fun r2 hr2 pr2 => ?_)
  refine zr_if_eq (pc := 5) hV 37 dX12_load_5 (by decide) (by omega) (fun c1 => ?_) (fun c1 => ?_)
  · show V 37 [some (ZR 0), some (ZI sheet), some (ZI lane), some (ZI from_), some (ZI place), some (ZI n), none, none, none] [] 41 σ
    refine zr_iconst (pc := 37) hV (-1) dX12_load_37 rfl ?_
    exact zr_iret (pc := 38) hV dX12_load_38 rfl rfl ⟨_, rfl, ⟨by decide, by decide⟩, hσ, (fun a i _ => rfl), trivial, (show zu_lc sheet lane from_ place n (zx_p2 (σ 0 2)) (σ 38) (σ 39) (fun i => σ 40 (30 * sheet + i)) (σ 14) (σ 14) from (zu_lc_n (Or.inl (fun q => by obtain ⟨q1, q2, q3, -⟩ := q; omega)) (fun _ => rfl))), Kσ⟩
  · show V 8 [some (ZR 0), some (ZI sheet), some (ZI lane), some (ZI from_), some (ZI place), some (ZI n), none, none, none] [] 41 σ
    refine zr_iload (pc := 8) hV dX12_load_8 rfl ?_
    refine zr_i2l (pc := 10) hV dX12_load_10 (by omega) ?_
    refine zr_lconst (pc := 11) hV 0 dX12_load_11 (by decide) ?_
    refine zr_ldc2 (pc := 12) (v := 30) hV 30 dX12_load_12 kX12_491 (by decide) ?_
    refine zr_callSp (pc := 15) hV [ZL n, ZL 0, ZL 30] (st := []) (c_X12_in (σ := σ) n 0 30 (by omega) (by omega) (by omega)) dX12_load_15 mX12_170 (by decide) (Nat.le_of_ble_eq_true rfl) (Nat.le_refl _) (fun r15 hr15 pr15 => ?_)
    refine zr_if_eq (pc := 18) hV 37 dX12_load_18 (by decide) (by omega) (fun c2 => ?_) (fun c2 => ?_)
    · show V 37 [some (ZR 0), some (ZI sheet), some (ZI lane), some (ZI from_), some (ZI place), some (ZI n), none, none, none] [] 41 σ
      refine zr_iconst (pc := 37) hV (-1) dX12_load_37 rfl ?_
      exact zr_iret (pc := 38) hV dX12_load_38 rfl rfl ⟨_, rfl, ⟨by decide, by decide⟩, hσ, (fun a i _ => rfl), trivial, (show zu_lc sheet lane from_ place n (zx_p2 (σ 0 2)) (σ 38) (σ 39) (fun i => σ 40 (30 * sheet + i)) (σ 14) (σ 14) from (zu_lc_n (Or.inl (fun q => by obtain ⟨q1, q2, q3, -⟩ := q; omega)) (fun _ => rfl))), Kσ⟩
    · show V 21 [some (ZR 0), some (ZI sheet), some (ZI lane), some (ZI from_), some (ZI place), some (ZI n), none, none, none] [] 41 σ
      refine zr_iload (pc := 21) hV dX12_load_21 rfl ?_
      refine zr_i2l (pc := 23) hV dX12_load_23 (by omega) ?_
      refine zr_lconst (pc := 24) hV 0 dX12_load_24 (by decide) ?_
      refine zr_bipush (pc := 25) hV 64 dX12_load_25 (by decide) ?_
      refine zr_iload (pc := 27) hV dX12_load_27 rfl ?_
      refine zr_isub (pc := 29) hV dX12_load_29 ?_
      refine zr_i2l (pc := 30) hV dX12_load_30 (by omega) ?_
      refine zr_callSp (pc := 31) hV [ZL place, ZL 0, ZL (64 - n)] (st := []) (c_X12_in (σ := σ) place 0 (64 - n) (by omega) (by omega) (by omega)) dX12_load_31 mX12_170 (by decide) (Nat.le_of_ble_eq_true rfl) (Nat.le_refl _) (fun r31 hr31 pr31 => ?_)
      refine zr_if_ne (pc := 34) hV 39 dX12_load_34 (by decide) (by omega) (fun c3 => ?_) (fun c3 => ?_)
      · show V 39 [some (ZR 0), some (ZI sheet), some (ZI lane), some (ZI from_), some (ZI place), some (ZI n), none, none, none] [] 41 σ
        refine zr_aload_n (pc := 39) hV dX12_load_39 rfl rfl ?_
        refine zr_iload_n (pc := 40) hV dX12_load_40 rfl rfl ?_
        refine zr_iload_n (pc := 41) hV dX12_load_41 rfl rfl ?_
        refine zr_iload_n (pc := 42) hV dX12_load_42 rfl rfl ?_
        refine zr_iload (pc := 43) hV dX12_load_43 rfl ?_
        refine zr_callVp (pc := 45) hV [ZI sheet, ZI lane, ZI from_, ZI n] (st := []) (c_X12_against2 (σ := σ) hσ sheet lane from_ n (by omega) (by omega) (by omega) (by omega)) dX12_load_45 mX12_485 rfl (by decide) (by decide) (Nat.le_of_ble_eq_true rfl) (Nat.le_refl _) (fun r45 hr45 pr45 => ?_)
        refine zr_istore (pc := 48) hV [some (ZR 0), some (ZI sheet), some (ZI lane), some (ZI from_), some (ZI place), some (ZI n), some (ZI r45), none, none] dX12_load_48 (by decide) rfl rfl ?_
        refine zr_iload (pc := 50) hV dX12_load_50 rfl ?_
        refine zr_if_ge (pc := 52) hV 58 dX12_load_52 (by decide) (by omega) (fun c4 => ?_) (fun c4 => ?_)
        · show V 58 [some (ZR 0), some (ZI sheet), some (ZI lane), some (ZI from_), some (ZI place), some (ZI n), some (ZI r45), none, none] [] 41 σ
          refine zr_bipush (pc := 58) hV 30 dX12_load_58 (by decide) ?_
          refine zr_iload_n (pc := 60) hV dX12_load_60 rfl rfl ?_
          refine zr_imul (pc := 61) hV dX12_load_61 ?_
          refine zr_iload_n (pc := 62) hV dX12_load_62 rfl rfl ?_
          refine zr_iadd (pc := 63) hV dX12_load_63 ?_
          refine zr_istore (pc := 64) hV [some (ZR 0), some (ZI sheet), some (ZI lane), some (ZI from_), some (ZI place), some (ZI n), some (ZI r45), some (ZI ((30 * sheet) + from_)), none] dX12_load_64 (by decide) rfl rfl ?_
          refine zr_iconst (pc := 66) hV 0 dX12_load_66 rfl ?_
          refine zr_istore (pc := 67) hV [some (ZR 0), some (ZI sheet), some (ZI lane), some (ZI from_), some (ZI place), some (ZI n), some (ZI r45), some (ZI ((30 * sheet) + from_)), some (ZI 0)] dX12_load_67 (by decide) rfl rfl ?_
          have L69 : ∀ (fuel : Nat) (x8_69 : Int), (0 ≤ x8_69 ∧ x8_69 ≤ 30) → (∀ j, 0 ≤ j → j < x8_69 → 0 ≤ σ 40 (30 * sheet + from_ + j) ∧ σ 40 (30 * sheet + from_ + j) < zx_p2 (σ 0 2) ∧ σ 40 (30 * sheet + from_ + j) ≤ 4095) → (zq_hid (∀ i, 0 ≤ i → i < x8_69 → 0 ≤ σ 40 (30 * sheet + (from_ + i)) ∧ σ 40 (30 * sheet + (from_ + i)) < zx_p2 (σ 0 2))) → 30 - x8_69 < (fuel : Int) → V 69 [some (ZR 0), none, none, none, some (ZI place), some (ZI n), none, some (ZI ((30 * sheet) + from_)), some (ZI x8_69)] [] 41 σ := by
            intro fuel
            induction fuel with
            | zero =>
              intro x8_69 hx8_69 hi69_0 hi69_1 hm69
              exfalso; omega
            | succ fuel ih =>
              intro x8_69 hx8_69 hi69_0 hi69_1 hm69
              have ih69 := ih
              show V 69 [some (ZR 0), none, none, none, some (ZI place), some (ZI n), none, some (ZI ((30 * sheet) + from_)), some (ZI x8_69)] [] 41 σ
              refine zr_iload (pc := 69) hV dX12_load_69 rfl ?_
              refine zr_iload (pc := 71) hV dX12_load_71 rfl ?_
              refine zr_icmp_ge (pc := 73) hV 102 dX12_load_73 (by decide) (by omega) (by omega) (fun c5 => ?_) (fun c5 => ?_)
              · show V 102 [some (ZR 0), none, none, none, some (ZI place), some (ZI n), none, some (ZI ((30 * sheet) + from_)), some (ZI x8_69)] [] 41 σ
                refine zr_iconst (pc := 102) hV 0 dX12_load_102 rfl ?_
                refine zr_istore (pc := 103) hV [some (ZR 0), none, none, none, some (ZI place), some (ZI n), none, some (ZI ((30 * sheet) + from_)), some (ZI 0)] dX12_load_103 (by decide) rfl rfl ?_
                have L105 : ∀ (fuel : Nat) (x8_105 : Int) (σ_105 : zq_S), (0 ≤ x8_105 ∧ x8_105 ≤ 30) → (zx_T σ_105) → (∀ a i : Int, (a ≠ 14) → σ_105 a i = σ a i) → (zx_K σ_105) → (zq_hid (∀ i, σ_105 14 i = if place ≤ i ∧ i < place + x8_105 then σ 40 (30 * sheet + (from_ + (i - place))) else σ 14 i)) → (x8_105 ≤ n) → 30 - x8_105 < (fuel : Int) → V 105 [some (ZR 0), none, none, none, some (ZI place), some (ZI n), none, some (ZI ((30 * sheet) + from_)), some (ZI x8_105)] [] 41 σ_105 := by
                  intro fuel
                  induction fuel with
                  | zero =>
                    intro x8_105 σ_105 hx8_105 hσ_105 hFσ_105 Kσ_105 hi105_0 hi105_1 hm105
                    exfalso; omega
                  | succ fuel ih =>
                    intro x8_105 σ_105 hx8_105 hσ_105 hFσ_105 Kσ_105 hi105_0 hi105_1 hm105
                    have ih105 := ih
                    show V 105 [some (ZR 0), none, none, none, some (ZI place), some (ZI n), none, some (ZI ((30 * sheet) + from_)), some (ZI x8_105)] [] 41 σ_105
                    refine zr_iload (pc := 105) hV dX12_load_105 rfl ?_
                    refine zr_iload (pc := 107) hV dX12_load_107 rfl ?_
                    refine zr_icmp_ge (pc := 109) hV 138 dX12_load_109 (by decide) (by omega) (by omega) (fun c6 => ?_) (fun c6 => ?_)
                    · show V 138 [some (ZR 0), none, none, none, some (ZI place), some (ZI n), none, some (ZI ((30 * sheet) + from_)), some (ZI x8_105)] [] 41 σ_105
                      refine zr_iload (pc := 138) hV dX12_load_138 rfl ?_
                      exact zr_iret (pc := 140) hV dX12_load_140 rfl rfl ⟨_, rfl, (by omega), hσ_105, hFσ_105, trivial, (show zu_lc sheet lane from_ place n (zx_p2 (σ 0 2)) (σ 38) (σ 39) (fun i => σ 40 (30 * sheet + i)) (σ 14) (σ_105 14) from (zu_lc_y ⟨by omega, by omega, by omega, fun i i0 i1 => hi69_1 i i0 (by omega)⟩ (fun i i0 i1 => by rw [hi105_0 i, show x8_105 = n by omega]))), Kσ_105⟩
                    · show V 112 [some (ZR 0), none, none, none, some (ZI place), some (ZI n), none, some (ZI ((30 * sheet) + from_)), some (ZI x8_105)] [] 41 σ_105
                      refine zr_aload_n (pc := 112) hV dX12_load_112 rfl rfl ?_
                      refine zr_getR (pc := 113) hV 23 14 dX12_load_113 fX12_59 rfl rfl rfl (by decide) (zx_g23 hσ_105) (by omega) ?_
                      refine zr_iload (pc := 116) hV dX12_load_116 rfl ?_
                      refine zr_iload (pc := 118) hV dX12_load_118 rfl ?_
                      refine zr_iadd (pc := 120) hV dX12_load_120 ?_
                      refine zr_aload_n (pc := 121) hV dX12_load_121 rfl rfl ?_
                      refine zr_getR (pc := 122) hV 64 40 dX12_load_122 fX12_144 rfl rfl rfl (by decide) (zx_g64 hσ_105) (by omega) ?_
                      refine zr_iload (pc := 125) hV dX12_load_125 rfl ?_
                      refine zr_iload (pc := 127) hV dX12_load_127 rfl ?_
                      refine zr_iadd (pc := 129) hV dX12_load_129 ?_
                      refine zr_iald (pc := 130) hV dX12_load_130 rfl (by decide) rfl (by omega) ?_
                      have t7 := zx_ga40 hσ_105 (((30 * sheet) + from_) + x8_105)
                      have t8 : σ_105 40 (((30 * sheet) + from_) + x8_105) = σ 40 (((30 * sheet) + from_) + x8_105) := hFσ_105 _ _ (by omega)
                      have zi := hi69_0 x8_105 (by omega) (by omega)
                      have zb := hFσ_105 0 2 (by omega)
                      refine zr_iast (pc := 131) hV dX12_load_131 rfl (by decide) rfl (by omega) (fun σ131 eσ131 => ?_)
                      have hσ131 : zx_T σ131 := zx_ua14 eσ131 hσ_105 (by omega)
                      have hFσ131 : ∀ a i : Int, (a ≠ 14) → σ131 a i = σ a i := fun a i h => by rw [eσ131, zq_up_ne (fun q => h q.1)]; exact hFσ_105 a i h
                      have Kσ131 : zx_K σ131 := zx_K_up Kσ_105 eσ131 (by rw [zb]; omega)
                      refine zr_iinc (pc := 132) hV [some (ZR 0), none, none, none, some (ZI place), some (ZI n), none, some (ZI ((30 * sheet) + from_)), some (ZI (x8_105 + 1))] (x8_105 + 1) dX12_load_132 rfl rfl (by decide) rfl rfl ?_
                      refine zr_goto (pc := 135) hV 105 dX12_load_135 (by decide) ?_
                      exact ih105 (x8_105 + 1) σ131 (by omega) hσ131 hFσ131 Kσ131 (fun i => if hc : i = place + x8_105 then (by rw [hc, eσ131, zq_up_same, if_pos (by omega), show 30 * sheet + (from_ + (place + x8_105 - place)) = ((30 * sheet) + from_) + x8_105 by omega]; exact hFσ_105 40 _ (by omega)) else (by rw [eσ131, zq_up_ne (by omega), hi105_0 i]; exact if hd : place ≤ i ∧ i < place + x8_105 then (by rw [if_pos hd, if_pos (by omega)]) else (by rw [if_neg hd, if_neg (by omega)]))) (by omega) (by omega)
                exact L105 (30 - (0 : Int) + 1 : Int).toNat 0 σ (by omega) hσ (fun a i _ => rfl) Kσ (fun i => by rw [if_neg (by omega)]) (by omega) (by omega)
              · show V 76 [some (ZR 0), none, none, none, some (ZI place), some (ZI n), none, some (ZI ((30 * sheet) + from_)), some (ZI x8_69)] [] 41 σ
                refine zr_aload_n (pc := 76) hV dX12_load_76 rfl rfl ?_
                refine zr_aload_n (pc := 77) hV dX12_load_77 rfl rfl ?_
                refine zr_getR (pc := 78) hV 64 40 dX12_load_78 fX12_144 rfl rfl rfl (by decide) (zx_g64 hσ) (by omega) ?_
                refine zr_iload (pc := 81) hV dX12_load_81 rfl ?_
                refine zr_iload (pc := 83) hV dX12_load_83 rfl ?_
                refine zr_iadd (pc := 85) hV dX12_load_85 ?_
                refine zr_iald (pc := 86) hV dX12_load_86 rfl (by decide) rfl (by omega) ?_
                have t9 := zx_ga40 hσ (((30 * sheet) + from_) + x8_69)
                refine zr_callVp (pc := 87) hV [ZI (σ 40 (((30 * sheet) + from_) + x8_69))] (st := []) (c_X12_isBits2 (σ := σ) hσ (σ 40 (((30 * sheet) + from_) + x8_69)) (by omega)) dX12_load_87 mX12_280 rfl (by decide) (by decide) (Nat.le_of_ble_eq_true rfl) (Nat.le_refl _) (fun r87 hr87 pr87 => ?_)
                have t10 := zx_g2 hσ
                refine zr_if_ne (pc := 90) hV 96 dX12_load_90 (by decide) (by omega) (fun c11 => ?_) (fun c11 => ?_)
                · show V 96 [some (ZR 0), none, none, none, some (ZI place), some (ZI n), none, some (ZI ((30 * sheet) + from_)), some (ZI x8_69)] [] 41 σ
                  refine zr_iinc (pc := 96) hV [some (ZR 0), none, none, none, some (ZI place), some (ZI n), none, some (ZI ((30 * sheet) + from_)), some (ZI (x8_69 + 1))] (x8_69 + 1) dX12_load_96 rfl rfl (by decide) rfl rfl ?_
                  refine zr_goto (pc := 99) hV 69 dX12_load_99 (by decide) ?_
                  have t12 := zx_g2 hσ
                  have t13 := zx_g2 hσ
                  exact ih69 (x8_69 + 1) (by omega) (fun j h1 h2 => if hc : j = x8_69 then (by rw [hc]; omega) else hi69_0 j h1 (by omega)) (fun i i0 i1 => if hc : i = x8_69 then (by rw [hc, show 30 * sheet + (from_ + x8_69) = ((30 * sheet) + from_) + x8_69 by omega]; exact pr87.2.1.mp (by omega)) else hi69_1 i i0 (by omega)) (by omega)
                · show V 93 [some (ZR 0), none, none, none, some (ZI place), some (ZI n), none, some (ZI ((30 * sheet) + from_)), some (ZI x8_69)] [] 41 σ
                  refine zr_bipush (pc := 93) hV (-2) dX12_load_93 (by decide) ?_
                  exact zr_iret (pc := 95) hV dX12_load_95 rfl rfl ⟨_, rfl, ⟨by decide, by decide⟩, hσ, (fun a i _ => rfl), trivial, (show zu_lc sheet lane from_ place n (zx_p2 (σ 0 2)) (σ 38) (σ 39) (fun i => σ 40 (30 * sheet + i)) (σ 14) (σ 14) from (zu_lc_n (Or.inl (fun q => absurd (q.2.2.2 x8_69 (by omega) (by omega)) (fun z => absurd (pr87.2.1.mpr (by have z2 : 0 ≤ σ 40 (30 * sheet + (from_ + x8_69)) ∧ σ 40 (30 * sheet + (from_ + x8_69)) < zx_p2 (σ 0 2) := z; rw [show ((30 * sheet) + from_) + x8_69 = 30 * sheet + (from_ + x8_69) by omega]; exact z2)) (by omega)))) (fun _ => rfl))), Kσ⟩
          have t14 := zx_g2 hσ
          have t15 := zx_g2 hσ
          refine zr_sub (pc := 69) hV [some (ZR 0), none, none, none, some (ZI place), some (ZI n), none, some (ZI ((30 * sheet) + from_)), some (ZI 0)] (⟨rfl, rfl, rfl, rfl, rfl, trivial⟩) ?_
          exact L69 (30 - (0 : Int) + 1 : Int).toNat 0 (by omega) (fun j h1 h2 => absurd h2 (by omega)) (fun i i0 i1 => absurd i1 (by omega)) (by omega)
        · show V 55 [some (ZR 0), some (ZI sheet), some (ZI lane), some (ZI from_), some (ZI place), some (ZI n), some (ZI r45), none, none] [] 41 σ
          refine zr_iload (pc := 55) hV dX12_load_55 rfl ?_
          exact zr_iret (pc := 57) hV dX12_load_57 rfl rfl ⟨_, rfl, (by omega), hσ, (fun a i _ => rfl), trivial, (show zu_lc sheet lane from_ place n (zx_p2 (σ 0 2)) (σ 38) (σ 39) (fun i => σ 40 (30 * sheet + i)) (σ 14) (σ 14) from (zu_lc_n (Or.inl (fun q => by obtain ⟨q1, q2, q3, -⟩ := q; omega)) (fun _ => rfl))), Kσ⟩
      · show V 37 [some (ZR 0), some (ZI sheet), some (ZI lane), some (ZI from_), some (ZI place), some (ZI n), none, none, none] [] 41 σ
        refine zr_iconst (pc := 37) hV (-1) dX12_load_37 rfl ?_
        exact zr_iret (pc := 38) hV dX12_load_38 rfl rfl ⟨_, rfl, ⟨by decide, by decide⟩, hσ, (fun a i _ => rfl), trivial, (show zu_lc sheet lane from_ place n (zx_p2 (σ 0 2)) (σ 38) (σ 39) (fun i => σ 40 (30 * sheet + i)) (σ 14) (σ 14) from (zu_lc_n (Or.inl (fun q => by obtain ⟨q1, q2, q3, -⟩ := q; omega)) (fun _ => rfl))), Kσ⟩
set_option maxHeartbeats 800000 in
theorem c_X12_sheet3 {σ : zq_S} (hσ : zx_T σ) (sheet lane n : Int) (q0 : zq_in sheet) (q1 : zq_in lane) (q2 : zq_in n) : zq_C zx_w yX12_sheet cX12_sheet 5 (some .int) 2 46 41 41 [ZR 0, ZI sheet, ZI lane, ZI n] σ (zq_pi (fun r τ => zx_T τ ∧ (∀ a i : Int, (a ≠ 38 ∧ a ≠ 39 ∧ a ≠ 40) → τ a i = σ a i) ∧ (((0 ≤ sheet ∧ sheet ≤ 3 ∧ 0 ≤ lane ∧ lane ≤ 2 ∧ n ≤ 30 ∧ n < 0 → r = -14) ∧ (0 ≤ sheet ∧ sheet ≤ 3 ∧ 0 ≤ lane ∧ lane ≤ 2 ∧ n ≤ 30 ∧ 0 ≤ n → r = n) ∧ (¬ (0 ≤ sheet ∧ sheet ≤ 3 ∧ 0 ≤ lane ∧ lane ≤ 2 ∧ n ≤ 30) → r = -1))) ∧ zq_hid (((∀ j, τ 38 j = if 0 ≤ sheet ∧ sheet ≤ 3 ∧ 0 ≤ lane ∧ lane ≤ 2 ∧ n ≤ 30 ∧ 0 ≤ n ∧ j = sheet then lane else σ 38 j) ∧ (∀ j, τ 39 j = if 0 ≤ sheet ∧ sheet ≤ 3 ∧ 0 ≤ lane ∧ lane ≤ 2 ∧ n ≤ 30 ∧ 0 ≤ n ∧ j = sheet then n else σ 39 j)) ∧ (∀ j, τ 40 j = if (0 ≤ sheet ∧ sheet ≤ 3 ∧ 0 ≤ lane ∧ lane ≤ 2 ∧ n ≤ 30 ∧ 0 ≤ n) ∧ 30 * sheet ≤ j ∧ j < 30 * sheet + 30 then 0 else σ 40 j)))) := by
  refine zq_C_of (by decide) (Nat.le_refl _) (Nat.le_of_ble_eq_true rfl) [some (ZR 0), some (ZI sheet), some (ZI lane), some (ZI n), none] rfl (fun V hV => ?_)
  show V 0 [some (ZR 0), some (ZI sheet), some (ZI lane), some (ZI n), none] [] 41 σ
  refine zr_iload_n (pc := 0) hV dX12_sheet_0 rfl rfl ?_
  refine zr_iload_n (pc := 1) hV dX12_sheet_1 rfl rfl ?_
  refine zr_callSp (pc := 2) hV [ZI sheet, ZI lane] (st := []) (c_X12_isSheet (σ := σ) sheet lane (by omega) (by omega)) dX12_sheet_2 mX12_480 (by decide) (Nat.le_of_ble_eq_true rfl) (Nat.le_refl _) (fun r2 hr2 pr2 => ?_)
  refine zr_if_eq (pc := 5) hV 14 dX12_sheet_5 (by decide) (by omega) (fun c1 => ?_) (fun c1 => ?_)
  · show V 14 [some (ZR 0), some (ZI sheet), some (ZI lane), some (ZI n), none] [] 41 σ
    refine zr_iconst (pc := 14) hV (-1) dX12_sheet_14 rfl ?_
    exact zr_iret (pc := 15) hV dX12_sheet_15 rfl rfl ⟨_, rfl, ⟨by decide, by decide⟩, hσ, (fun a i _ => rfl), (by omega), (show ((∀ j, σ 38 j = if 0 ≤ sheet ∧ sheet ≤ 3 ∧ 0 ≤ lane ∧ lane ≤ 2 ∧ n ≤ 30 ∧ 0 ≤ n ∧ j = sheet then lane else σ 38 j) ∧ (∀ j, σ 39 j = if 0 ≤ sheet ∧ sheet ≤ 3 ∧ 0 ≤ lane ∧ lane ≤ 2 ∧ n ≤ 30 ∧ 0 ≤ n ∧ j = sheet then n else σ 39 j)) ∧ (∀ j, σ 40 j = if (0 ≤ sheet ∧ sheet ≤ 3 ∧ 0 ≤ lane ∧ lane ≤ 2 ∧ n ≤ 30 ∧ 0 ≤ n) ∧ 30 * sheet ≤ j ∧ j < 30 * sheet + 30 then 0 else σ 40 j) from ⟨⟨fun j => by rw [if_neg (by omega)], fun j => by rw [if_neg (by omega)]⟩, fun j => by rw [if_neg (by omega)]⟩)⟩
  · show V 8 [some (ZR 0), some (ZI sheet), some (ZI lane), some (ZI n), none] [] 41 σ
    refine zr_iload_n (pc := 8) hV dX12_sheet_8 rfl rfl ?_
    refine zr_bipush (pc := 9) hV 30 dX12_sheet_9 (by decide) ?_
    refine zr_icmp_le (pc := 11) hV 16 dX12_sheet_11 (by decide) (by omega) ⟨by decide, by decide⟩ (fun c2 => ?_) (fun c2 => ?_)
    · show V 16 [some (ZR 0), some (ZI sheet), some (ZI lane), some (ZI n), none] [] 41 σ
      refine zr_iload_n (pc := 16) hV dX12_sheet_16 rfl rfl ?_
      refine zr_if_ge (pc := 17) hV 23 dX12_sheet_17 (by decide) (by omega) (fun c3 => ?_) (fun c3 => ?_)
      · show V 23 [some (ZR 0), some (ZI sheet), some (ZI lane), some (ZI n), none] [] 41 σ
        refine zr_aload_n (pc := 23) hV dX12_sheet_23 rfl rfl ?_
        refine zr_getR (pc := 24) hV 62 38 dX12_sheet_24 fX12_138 rfl rfl rfl (by decide) (zx_g62 hσ) (by omega) ?_
        refine zr_iload_n (pc := 27) hV dX12_sheet_27 rfl rfl ?_
        refine zr_iload_n (pc := 28) hV dX12_sheet_28 rfl rfl ?_
        refine zr_iast (pc := 29) hV dX12_sheet_29 rfl (by decide) rfl (by omega) (fun σ29 eσ29 => ?_)
        have hσ29 : zx_T σ29 := zx_ua38 eσ29 hσ (by omega)
        have hFσ29 : ∀ a i : Int, (a ≠ 38 ∧ a ≠ 39 ∧ a ≠ 40) → σ29 a i = σ a i := fun a i h => by rw [eσ29, zq_up_ne (fun q => h.1 q.1)]
        refine zr_aload_n (pc := 30) hV dX12_sheet_30 rfl rfl ?_
        refine zr_getR (pc := 31) hV 63 39 dX12_sheet_31 fX12_141 rfl rfl rfl (by decide) (zx_g63 hσ29) (by omega) ?_
        refine zr_iload_n (pc := 34) hV dX12_sheet_34 rfl rfl ?_
        refine zr_iload_n (pc := 35) hV dX12_sheet_35 rfl rfl ?_
        refine zr_iast (pc := 36) hV dX12_sheet_36 rfl (by decide) rfl (by omega) (fun σ36 eσ36 => ?_)
        have hσ36 : zx_T σ36 := zx_ua39 eσ36 hσ29 (by omega)
        have hFσ36 : ∀ a i : Int, (a ≠ 38 ∧ a ≠ 39 ∧ a ≠ 40) → σ36 a i = σ a i := fun a i h => by rw [eσ36, zq_up_ne (fun q => h.2.1 q.1)]; exact hFσ29 a i h
        refine zr_iconst (pc := 37) hV 0 dX12_sheet_37 rfl ?_
        refine zr_istore (pc := 38) hV [some (ZR 0), some (ZI sheet), some (ZI lane), some (ZI n), some (ZI 0)] dX12_sheet_38 (by decide) rfl rfl ?_
        have L40 : ∀ (fuel : Nat) (x4_40 : Int) (σ_40 : zq_S), (0 ≤ x4_40 ∧ x4_40 ≤ 30) → (zx_T σ_40) → (∀ a i : Int, (a ≠ 38 ∧ a ≠ 39 ∧ a ≠ 40) → σ_40 a i = σ a i) → (zq_hid (∀ j, σ_40 38 j = if j = sheet then lane else σ 38 j)) → (zq_hid (∀ j, σ_40 39 j = if j = sheet then n else σ 39 j)) → (zq_hid (∀ j, σ_40 40 j = if 30 * sheet ≤ j ∧ j < 30 * sheet + x4_40 then 0 else σ 40 j)) → (x4_40 ≤ 30) → 30 - x4_40 < (fuel : Int) → V 40 [some (ZR 0), some (ZI sheet), none, some (ZI n), some (ZI x4_40)] [] 41 σ_40 := by
          intro fuel
          induction fuel with
          | zero =>
            intro x4_40 σ_40 hx4_40 hσ_40 hFσ_40 hi40_0 hi40_1 hi40_2 hi40_3 hm40
            exfalso; omega
          | succ fuel ih =>
            intro x4_40 σ_40 hx4_40 hσ_40 hFσ_40 hi40_0 hi40_1 hi40_2 hi40_3 hm40
            have ih40 := ih
            show V 40 [some (ZR 0), some (ZI sheet), none, some (ZI n), some (ZI x4_40)] [] 41 σ_40
            refine zr_iload (pc := 40) hV dX12_sheet_40 rfl ?_
            refine zr_bipush (pc := 42) hV 30 dX12_sheet_42 (by decide) ?_
            refine zr_icmp_ge (pc := 44) hV 66 dX12_sheet_44 (by decide) (by omega) ⟨by decide, by decide⟩ (fun c4 => ?_) (fun c4 => ?_)
            · show V 66 [some (ZR 0), some (ZI sheet), none, some (ZI n), some (ZI x4_40)] [] 41 σ_40
              refine zr_iload_n (pc := 66) hV dX12_sheet_66 rfl rfl ?_
              exact zr_iret (pc := 67) hV dX12_sheet_67 rfl rfl ⟨_, rfl, (by omega), hσ_40, hFσ_40, (by omega), (show ((∀ j, σ_40 38 j = if 0 ≤ sheet ∧ sheet ≤ 3 ∧ 0 ≤ lane ∧ lane ≤ 2 ∧ n ≤ 30 ∧ 0 ≤ n ∧ j = sheet then lane else σ 38 j) ∧ (∀ j, σ_40 39 j = if 0 ≤ sheet ∧ sheet ≤ 3 ∧ 0 ≤ lane ∧ lane ≤ 2 ∧ n ≤ 30 ∧ 0 ≤ n ∧ j = sheet then n else σ 39 j)) ∧ (∀ j, σ_40 40 j = if (0 ≤ sheet ∧ sheet ≤ 3 ∧ 0 ≤ lane ∧ lane ≤ 2 ∧ n ≤ 30 ∧ 0 ≤ n) ∧ 30 * sheet ≤ j ∧ j < 30 * sheet + 30 then 0 else σ 40 j) from ⟨⟨fun j => if h : j = sheet then (by rw [hi40_0 j, if_pos h, if_pos (by omega)]) else (by rw [hi40_0 j, if_neg h, if_neg (by omega)]), fun j => if h : j = sheet then (by rw [hi40_1 j, if_pos h, if_pos (by omega)]) else (by rw [hi40_1 j, if_neg h, if_neg (by omega)])⟩, fun j => by rw [hi40_2 j, show x4_40 = 30 by omega]; exact if hd : 30 * sheet ≤ j ∧ j < 30 * sheet + 30 then (by rw [if_pos hd, if_pos (by omega)]) else (by rw [if_neg hd, if_neg (by omega)])⟩)⟩
            · show V 47 [some (ZR 0), some (ZI sheet), none, some (ZI n), some (ZI x4_40)] [] 41 σ_40
              refine zr_aload_n (pc := 47) hV dX12_sheet_47 rfl rfl ?_
              refine zr_getR (pc := 48) hV 64 40 dX12_sheet_48 fX12_144 rfl rfl rfl (by decide) (zx_g64 hσ_40) (by omega) ?_
              refine zr_bipush (pc := 51) hV 30 dX12_sheet_51 (by decide) ?_
              refine zr_iload_n (pc := 53) hV dX12_sheet_53 rfl rfl ?_
              refine zr_imul (pc := 54) hV dX12_sheet_54 ?_
              refine zr_iload (pc := 55) hV dX12_sheet_55 rfl ?_
              refine zr_iadd (pc := 57) hV dX12_sheet_57 ?_
              refine zr_iconst (pc := 58) hV 0 dX12_sheet_58 rfl ?_
              refine zr_iast (pc := 59) hV dX12_sheet_59 rfl (by decide) rfl (by omega) (fun σ59 eσ59 => ?_)
              have hσ59 : zx_T σ59 := zx_ua40 eσ59 hσ_40 (by omega)
              have hFσ59 : ∀ a i : Int, (a ≠ 38 ∧ a ≠ 39 ∧ a ≠ 40) → σ59 a i = σ a i := fun a i h => by rw [eσ59, zq_up_ne (fun q => h.2.2 q.1)]; exact hFσ_40 a i h
              refine zr_iinc (pc := 60) hV [some (ZR 0), some (ZI sheet), none, some (ZI n), some (ZI (x4_40 + 1))] (x4_40 + 1) dX12_sheet_60 rfl rfl (by decide) rfl rfl ?_
              refine zr_goto (pc := 63) hV 40 dX12_sheet_63 (by decide) ?_
              exact ih40 (x4_40 + 1) σ59 (by omega) hσ59 hFσ59 (fun j => by rw [eσ59, zq_up_ne (by omega)]; exact hi40_0 j) (fun j => by rw [eσ59, zq_up_ne (by omega)]; exact hi40_1 j) (fun j => if hc : j = 30 * sheet + x4_40 then (by rw [if_pos (by omega), hc, eσ59, zq_up_same]) else (by rw [eσ59, zq_up_ne (by omega), hi40_2 j]; exact if hd : 30 * sheet ≤ j ∧ j < 30 * sheet + x4_40 then (by rw [if_pos hd, if_pos (by omega)]) else (by rw [if_neg hd, if_neg (by omega)]))) (by omega) (by omega)
        refine zr_sub (pc := 40) hV [some (ZR 0), some (ZI sheet), none, some (ZI n), some (ZI 0)] (⟨rfl, rfl, rfl, rfl, trivial⟩) ?_
        exact L40 (30 - (0 : Int) + 1 : Int).toNat 0 σ36 (by omega) hσ36 hFσ36 (fun j => if h : j = sheet then (by rw [if_pos h, h, eσ36, zq_up_ne (by omega), eσ29, zq_up_same]) else (by rw [if_neg h, eσ36, zq_up_ne (by omega), eσ29, zq_up_ne (by omega)])) (fun j => if h : j = sheet then (by rw [if_pos h, h, eσ36, zq_up_same]) else (by rw [if_neg h, eσ36, zq_up_ne (by omega), eσ29, zq_up_ne (by omega)])) (fun j => by rw [if_neg (by omega), eσ36, zq_up_ne (by omega), eσ29, zq_up_ne (by omega)]) (by omega) (by omega)
      · show V 20 [some (ZR 0), some (ZI sheet), some (ZI lane), some (ZI n), none] [] 41 σ
        refine zr_bipush (pc := 20) hV (-14) dX12_sheet_20 (by decide) ?_
        exact zr_iret (pc := 22) hV dX12_sheet_22 rfl rfl ⟨_, rfl, ⟨by decide, by decide⟩, hσ, (fun a i _ => rfl), (by omega), (show ((∀ j, σ 38 j = if 0 ≤ sheet ∧ sheet ≤ 3 ∧ 0 ≤ lane ∧ lane ≤ 2 ∧ n ≤ 30 ∧ 0 ≤ n ∧ j = sheet then lane else σ 38 j) ∧ (∀ j, σ 39 j = if 0 ≤ sheet ∧ sheet ≤ 3 ∧ 0 ≤ lane ∧ lane ≤ 2 ∧ n ≤ 30 ∧ 0 ≤ n ∧ j = sheet then n else σ 39 j)) ∧ (∀ j, σ 40 j = if (0 ≤ sheet ∧ sheet ≤ 3 ∧ 0 ≤ lane ∧ lane ≤ 2 ∧ n ≤ 30 ∧ 0 ≤ n) ∧ 30 * sheet ≤ j ∧ j < 30 * sheet + 30 then 0 else σ 40 j) from ⟨⟨fun j => by rw [if_neg (by omega)], fun j => by rw [if_neg (by omega)]⟩, fun j => by rw [if_neg (by omega)]⟩)⟩
    · show V 14 [some (ZR 0), some (ZI sheet), some (ZI lane), some (ZI n), none] [] 41 σ
      refine zr_iconst (pc := 14) hV (-1) dX12_sheet_14 rfl ?_
      exact zr_iret (pc := 15) hV dX12_sheet_15 rfl rfl ⟨_, rfl, ⟨by decide, by decide⟩, hσ, (fun a i _ => rfl), (by omega), (show ((∀ j, σ 38 j = if 0 ≤ sheet ∧ sheet ≤ 3 ∧ 0 ≤ lane ∧ lane ≤ 2 ∧ n ≤ 30 ∧ 0 ≤ n ∧ j = sheet then lane else σ 38 j) ∧ (∀ j, σ 39 j = if 0 ≤ sheet ∧ sheet ≤ 3 ∧ 0 ≤ lane ∧ lane ≤ 2 ∧ n ≤ 30 ∧ 0 ≤ n ∧ j = sheet then n else σ 39 j)) ∧ (∀ j, σ 40 j = if (0 ≤ sheet ∧ sheet ≤ 3 ∧ 0 ≤ lane ∧ lane ≤ 2 ∧ n ≤ 30 ∧ 0 ≤ n) ∧ 30 * sheet ≤ j ∧ j < 30 * sheet + 30 then 0 else σ 40 j) from ⟨⟨fun j => by rw [if_neg (by omega)], fun j => by rw [if_neg (by omega)]⟩, fun j => by rw [if_neg (by omega)]⟩)⟩
set_option maxHeartbeats 800000 in
theorem c_X12_item3 {σ : zq_S} (hσ : zx_T σ) (sheet lane i v : Int) (q0 : zq_in sheet) (q1 : zq_in lane) (q2 : zq_in i) (q3 : zq_in v) : zq_C zx_w yX12_item cX12_item 6 (some .int) 2 49 41 41 [ZR 0, ZI sheet, ZI lane, ZI i, ZI v] σ (zq_pi (fun r τ => zx_T τ ∧ (∀ a i : Int, (a ≠ 40) → τ a i = σ a i) ∧ ((¬ (0 ≤ sheet ∧ sheet ≤ 3 ∧ 0 ≤ lane ∧ lane ≤ 2) → r = -1) ∧ (0 ≤ sheet ∧ sheet ≤ 3 ∧ 0 ≤ lane ∧ lane ≤ 2 → (σ 38 sheet ≠ lane → (σ 38 sheet < 0 → r = -11) ∧ (0 ≤ σ 38 sheet → r = -12)) ∧ (σ 38 sheet = lane → (0 ≤ i ∧ i ≤ σ 39 sheet - 1 → r = 1) ∧ (¬ (0 ≤ i ∧ i ≤ σ 39 sheet - 1) → r = -13)))) ∧ zq_hid (∀ j, τ 40 j = if (0 ≤ sheet ∧ sheet ≤ 3 ∧ 0 ≤ lane ∧ lane ≤ 2 ∧ σ 38 sheet = lane ∧ 0 ≤ i ∧ i ≤ σ 39 sheet - 1) ∧ j = 30 * sheet + i then zu_cut lane v else σ 40 j))) := by
  refine zq_C_of (by decide) (Nat.le_refl _) (Nat.le_of_ble_eq_true rfl) [some (ZR 0), some (ZI sheet), some (ZI lane), some (ZI i), some (ZI v), none] rfl (fun V hV => ?_)
  show V 0 [some (ZR 0), some (ZI sheet), some (ZI lane), some (ZI i), some (ZI v), none] [] 41 σ
  refine zr_iload_n (pc := 0) hV dX12_item_0 rfl rfl ?_
  refine zr_iload_n (pc := 1) hV dX12_item_1 rfl rfl ?_
  refine zr_callSp (pc := 2) hV [ZI sheet, ZI lane] (st := []) (c_X12_isSheet (σ := σ) sheet lane (by omega) (by omega)) dX12_item_2 mX12_480 (by decide) (Nat.le_of_ble_eq_true rfl) (Nat.le_refl _) (fun r2 hr2 pr2 => ?_)
  refine zr_if_ne (pc := 5) hV 10 dX12_item_5 (by decide) (by omega) (fun c1 => ?_) (fun c1 => ?_)
  · show V 10 [some (ZR 0), some (ZI sheet), some (ZI lane), some (ZI i), some (ZI v), none] [] 41 σ
    refine zr_aload_n (pc := 10) hV dX12_item_10 rfl rfl ?_
    refine zr_iload_n (pc := 11) hV dX12_item_11 rfl rfl ?_
    refine zr_iload_n (pc := 12) hV dX12_item_12 rfl rfl ?_
    refine zr_iload_n (pc := 13) hV dX12_item_13 rfl rfl ?_
    refine zr_iconst (pc := 14) hV 1 dX12_item_14 rfl ?_
    refine zr_callVp (pc := 15) hV [ZI sheet, ZI lane, ZI i, ZI 1] (st := []) (c_X12_against2 (σ := σ) hσ sheet lane i 1 (by omega) (by omega) (by omega) (by omega)) dX12_item_15 mX12_485 rfl (by decide) (by decide) (Nat.le_of_ble_eq_true rfl) (Nat.le_refl _) (fun r15 hr15 pr15 => ?_)
    refine zr_istore (pc := 18) hV [some (ZR 0), some (ZI sheet), some (ZI lane), some (ZI i), some (ZI v), some (ZI r15)] dX12_item_18 (by decide) rfl rfl ?_
    refine zr_iload (pc := 20) hV dX12_item_20 rfl ?_
    refine zr_if_ge (pc := 22) hV 28 dX12_item_22 (by decide) (by omega) (fun c2 => ?_) (fun c2 => ?_)
    · show V 28 [some (ZR 0), some (ZI sheet), some (ZI lane), some (ZI i), some (ZI v), some (ZI r15)] [] 41 σ
      refine zr_aload_n (pc := 28) hV dX12_item_28 rfl rfl ?_
      refine zr_getR (pc := 29) hV 64 40 dX12_item_29 fX12_144 rfl rfl rfl (by decide) (zx_g64 hσ) (by omega) ?_
      refine zr_bipush (pc := 32) hV 30 dX12_item_32 (by decide) ?_
      refine zr_iload_n (pc := 34) hV dX12_item_34 rfl rfl ?_
      refine zr_imul (pc := 35) hV dX12_item_35 ?_
      refine zr_iload_n (pc := 36) hV dX12_item_36 rfl rfl ?_
      refine zr_iadd (pc := 37) hV dX12_item_37 ?_
      refine zr_iload_n (pc := 38) hV dX12_item_38 rfl rfl ?_
      have J71 : ∀ (v0_71 : Int), ((-2147483648) ≤ v0_71 ∧ v0_71 ≤ 2147483647) → (v0_71 = zu_cut lane v) → V 71 [none, none, none, none, none, none] [ZI v0_71, ZI ((30 * sheet) + i), ZR 40] 41 σ := by
        intro v0_71 hv0_71 hi71_0
        show V 71 [none, none, none, none, none, none] [ZI v0_71, ZI ((30 * sheet) + i), ZR 40] 41 σ
        refine zr_iast (pc := 71) hV dX12_item_71 rfl (by decide) rfl (by omega) (fun σ71 eσ71 => ?_)
        have hσ71 : zx_T σ71 := zx_ua40 eσ71 hσ (by omega)
        have hFσ71 : ∀ a i : Int, (a ≠ 40) → σ71 a i = σ a i := fun a i h => by rw [eσ71, zq_up_ne (fun q => h q.1)]
        refine zr_iconst (pc := 72) hV 1 dX12_item_72 rfl ?_
        exact zr_iret (pc := 73) hV dX12_item_73 rfl rfl ⟨_, rfl, ⟨by decide, by decide⟩, hσ71, hFσ71, (by omega), (show ∀ j, σ71 40 j = if (0 ≤ sheet ∧ sheet ≤ 3 ∧ 0 ≤ lane ∧ lane ≤ 2 ∧ σ 38 sheet = lane ∧ 0 ≤ i ∧ i ≤ σ 39 sheet - 1) ∧ j = 30 * sheet + i then zu_cut lane v else σ 40 j from (fun j => if h : j = 30 * sheet + i then (by rw [if_pos ⟨by omega, h⟩, h, eσ71, zq_up_same]; exact hi71_0) else (by rw [if_neg (fun q => h q.2), eσ71, zq_up_ne (by omega)])))⟩
      refine zr_if_ne (pc := 39) hV 53 dX12_item_39 (by decide) (by omega) (fun c3 => ?_) (fun c3 => ?_)
      · show V 53 [some (ZR 0), some (ZI sheet), some (ZI lane), some (ZI i), some (ZI v), some (ZI r15)] [ZI ((30 * sheet) + i), ZR 40] 41 σ
        refine zr_iload_n (pc := 53) hV dX12_item_53 rfl rfl ?_
        refine zr_iconst (pc := 54) hV 1 dX12_item_54 rfl ?_
        refine zr_icmp_ne (pc := 55) hV 69 dX12_item_55 (by decide) (by omega) ⟨by decide, by decide⟩ (fun c4 => ?_) (fun c4 => ?_)
        · show V 69 [some (ZR 0), some (ZI sheet), some (ZI lane), some (ZI i), some (ZI v), some (ZI r15)] [ZI ((30 * sheet) + i), ZR 40] 41 σ
          refine zr_iload (pc := 69) hV dX12_item_69 rfl ?_
          refine zr_sub (pc := 71) hV [none, none, none, none, none, none] (trivial) ?_
          exact J71 v (by omega) (by unfold zu_cut; rw [if_neg (by omega), if_neg (by omega)])
        · show V 58 [some (ZR 0), some (ZI sheet), some (ZI lane), some (ZI i), some (ZI v), some (ZI r15)] [ZI ((30 * sheet) + i), ZR 40] 41 σ
          refine zr_iload (pc := 58) hV dX12_item_58 rfl ?_
          refine zr_bipush (pc := 60) hV 16 dX12_item_60 (by decide) ?_
          refine zr_ishl (pc := 62) hV dX12_item_62 ?_
          have t5 := zq_shl_in v 16
          refine zr_bipush (pc := 63) hV 16 dX12_item_63 (by decide) ?_
          refine zr_ishr (pc := 65) hV dX12_item_65 ?_
          have t6 := zq_shr_in (zq_shl v 16) 16
          refine zr_goto (pc := 66) hV 71 dX12_item_66 (by decide) ?_
          refine zr_sub (pc := 71) hV [none, none, none, none, none, none] (trivial) ?_
          exact J71 (zq_shr (zq_shl v 16) 16) (by omega) (by rw [zq_short_s]; unfold zu_cut; rw [if_neg (by omega), if_pos (by omega)])
      · show V 42 [some (ZR 0), some (ZI sheet), some (ZI lane), some (ZI i), some (ZI v), some (ZI r15)] [ZI ((30 * sheet) + i), ZR 40] 41 σ
        refine zr_iload (pc := 42) hV dX12_item_42 rfl ?_
        refine zr_bipush (pc := 44) hV 24 dX12_item_44 (by decide) ?_
        refine zr_ishl (pc := 46) hV dX12_item_46 ?_
        have t7 := zq_shl_in v 24
        refine zr_bipush (pc := 47) hV 24 dX12_item_47 (by decide) ?_
        refine zr_ishr (pc := 49) hV dX12_item_49 ?_
        have t8 := zq_shr_in (zq_shl v 24) 24
        refine zr_goto (pc := 50) hV 71 dX12_item_50 (by decide) ?_
        refine zr_sub (pc := 71) hV [none, none, none, none, none, none] (trivial) ?_
        exact J71 (zq_shr (zq_shl v 24) 24) (by omega) (by rw [zq_byte_s]; unfold zu_cut; rw [if_pos (by omega)])
    · show V 25 [some (ZR 0), some (ZI sheet), some (ZI lane), some (ZI i), some (ZI v), some (ZI r15)] [] 41 σ
      refine zr_iload (pc := 25) hV dX12_item_25 rfl ?_
      exact zr_iret (pc := 27) hV dX12_item_27 rfl rfl ⟨_, rfl, (by omega), hσ, (fun a i _ => rfl), (by omega), (show ∀ j, σ 40 j = if (0 ≤ sheet ∧ sheet ≤ 3 ∧ 0 ≤ lane ∧ lane ≤ 2 ∧ σ 38 sheet = lane ∧ 0 ≤ i ∧ i ≤ σ 39 sheet - 1) ∧ j = 30 * sheet + i then zu_cut lane v else σ 40 j from (fun j => by rw [if_neg (by omega)]))⟩
  · show V 8 [some (ZR 0), some (ZI sheet), some (ZI lane), some (ZI i), some (ZI v), none] [] 41 σ
    refine zr_iconst (pc := 8) hV (-1) dX12_item_8 rfl ?_
    exact zr_iret (pc := 9) hV dX12_item_9 rfl rfl ⟨_, rfl, ⟨by decide, by decide⟩, hσ, (fun a i _ => rfl), (by omega), (show ∀ j, σ 40 j = if (0 ≤ sheet ∧ sheet ≤ 3 ∧ 0 ≤ lane ∧ lane ≤ 2 ∧ σ 38 sheet = lane ∧ 0 ≤ i ∧ i ≤ σ 39 sheet - 1) ∧ j = 30 * sheet + i then zu_cut lane v else σ 40 j from (fun j => by rw [if_neg (by omega)]))⟩

