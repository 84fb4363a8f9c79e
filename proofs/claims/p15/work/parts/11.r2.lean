set_option maxHeartbeats 800000 in
theorem c_X12_reckon {σ : zq_S} (sign x y : Int) (q0 : zq_in sign) (q1 : zq_in x) (q2 : zq_in y) : zq_C zx_w yX12_reckon cX12_reckon 3 (some .int) 0 0 41 41 [ZI sign, ZI x, ZI y] σ (zq_pp σ (fun r => True)) := by
  refine zq_C_of (by decide) (Nat.le_refl _) (Nat.le_of_ble_eq_true rfl) [some (ZI sign), some (ZI x), some (ZI y)] rfl (fun V hV => ?_)
  show V 0 [some (ZI sign), some (ZI x), some (ZI y)] [] 41 σ
  refine zr_iload_n (pc := 0) hV dX12_reckon_0 rfl rfl ?_
  by_cases c1 : sign = 1
  · refine zr_eqI (V := V) 1 c1 ?_
    refine zr_tableIn (pc := 1) hV 40 dX12_reckon_1 ⟨by decide, by decide⟩ (by decide) (by decide) rfl (by decide) ?_
    show V 40 [some (ZI sign), some (ZI x), some (ZI y)] [] 41 σ
    refine zr_iload_n (pc := 40) hV dX12_reckon_40 rfl rfl ?_
    refine zr_iload_n (pc := 41) hV dX12_reckon_41 rfl rfl ?_
    refine zr_iadd (pc := 42) hV dX12_reckon_42 ?_
    refine zr_any (pc := 43) hV (fun y43 hy43 _ => ?_)
    exact zr_iret (pc := 43) hV dX12_reckon_43 rfl rfl ⟨rfl, _, rfl, (by omega), trivial⟩
  by_cases c2 : sign = 2
  · refine zr_eqI (V := V) 2 c2 ?_
    refine zr_tableIn (pc := 1) hV 44 dX12_reckon_1 ⟨by decide, by decide⟩ (by decide) (by decide) rfl (by decide) ?_
    show V 44 [some (ZI sign), some (ZI x), some (ZI y)] [] 41 σ
    refine zr_iload_n (pc := 44) hV dX12_reckon_44 rfl rfl ?_
    refine zr_iload_n (pc := 45) hV dX12_reckon_45 rfl rfl ?_
    refine zr_isub (pc := 46) hV dX12_reckon_46 ?_
    refine zr_any (pc := 47) hV (fun y47 hy47 _ => ?_)
    exact zr_iret (pc := 47) hV dX12_reckon_47 rfl rfl ⟨rfl, _, rfl, (by omega), trivial⟩
  by_cases c3 : sign = 3
  · refine zr_eqI (V := V) 3 c3 ?_
    refine zr_tableIn (pc := 1) hV 48 dX12_reckon_1 ⟨by decide, by decide⟩ (by decide) (by decide) rfl (by decide) ?_
    show V 48 [some (ZI sign), some (ZI x), some (ZI y)] [] 41 σ
    refine zr_iload_n (pc := 48) hV dX12_reckon_48 rfl rfl ?_
    refine zr_iload_n (pc := 49) hV dX12_reckon_49 rfl rfl ?_
    refine zr_iand (pc := 50) hV dX12_reckon_50 ?_
    have t4 := zq_and_in x y
    exact zr_iret (pc := 51) hV dX12_reckon_51 rfl rfl ⟨rfl, _, rfl, (by omega), trivial⟩
  by_cases c5 : sign = 4
  · refine zr_eqI (V := V) 4 c5 ?_
    refine zr_tableIn (pc := 1) hV 52 dX12_reckon_1 ⟨by decide, by decide⟩ (by decide) (by decide) rfl (by decide) ?_
    show V 52 [some (ZI sign), some (ZI x), some (ZI y)] [] 41 σ
    refine zr_iload_n (pc := 52) hV dX12_reckon_52 rfl rfl ?_
    refine zr_iload_n (pc := 53) hV dX12_reckon_53 rfl rfl ?_
    refine zr_ior (pc := 54) hV dX12_reckon_54 ?_
    have t6 := zq_or_in x y
    exact zr_iret (pc := 55) hV dX12_reckon_55 rfl rfl ⟨rfl, _, rfl, (by omega), trivial⟩
  by_cases c7 : sign = 5
  · refine zr_eqI (V := V) 5 c7 ?_
    refine zr_tableIn (pc := 1) hV 56 dX12_reckon_1 ⟨by decide, by decide⟩ (by decide) (by decide) rfl (by decide) ?_
    show V 56 [some (ZI sign), some (ZI x), some (ZI y)] [] 41 σ
    refine zr_iload_n (pc := 56) hV dX12_reckon_56 rfl rfl ?_
    refine zr_iload_n (pc := 57) hV dX12_reckon_57 rfl rfl ?_
    refine zr_ixor (pc := 58) hV dX12_reckon_58 ?_
    have t8 := zq_xor_in x y
    exact zr_iret (pc := 59) hV dX12_reckon_59 rfl rfl ⟨rfl, _, rfl, (by omega), trivial⟩
  by_cases c9 : sign = 6
  · refine zr_eqI (V := V) 6 c9 ?_
    refine zr_tableIn (pc := 1) hV 60 dX12_reckon_1 ⟨by decide, by decide⟩ (by decide) (by decide) rfl (by decide) ?_
    show V 60 [some (ZI sign), some (ZI x), some (ZI y)] [] 41 σ
    refine zr_iload_n (pc := 60) hV dX12_reckon_60 rfl rfl ?_
    refine zr_iload_n (pc := 61) hV dX12_reckon_61 rfl rfl ?_
    refine zr_icmp_ge (pc := 62) hV 69 dX12_reckon_62 (by decide) (by omega) (by omega) (fun c10 => ?_) (fun c10 => ?_)
    · show V 69 [some (ZI sign), some (ZI x), some (ZI y)] [] 41 σ
      refine zr_iconst (pc := 69) hV 0 dX12_reckon_69 rfl ?_
      show V 70 [some (ZI sign), some (ZI x), some (ZI y)] [ZI 0] 41 σ
      exact zr_iret (pc := 70) hV dX12_reckon_70 rfl rfl ⟨rfl, _, rfl, ⟨by decide, by decide⟩, trivial⟩
    · show V 65 [some (ZI sign), some (ZI x), some (ZI y)] [] 41 σ
      refine zr_iconst (pc := 65) hV 1 dX12_reckon_65 rfl ?_
      refine zr_goto (pc := 66) hV 70 dX12_reckon_66 (by decide) ?_
      show V 70 [some (ZI sign), some (ZI x), some (ZI y)] [ZI 1] 41 σ
      exact zr_iret (pc := 70) hV dX12_reckon_70 rfl rfl ⟨rfl, _, rfl, ⟨by decide, by decide⟩, trivial⟩
  refine zr_tableOut (pc := 1) hV 71 dX12_reckon_1 (by omega) (by omega) (by decide) ?_
  show V 71 [some (ZI sign), some (ZI x), some (ZI y)] [] 41 σ
  refine zr_iload_n (pc := 71) hV dX12_reckon_71 rfl rfl ?_
  exact zr_iret (pc := 72) hV dX12_reckon_72 rfl rfl ⟨rfl, _, rfl, (by omega), trivial⟩
set_option maxHeartbeats 800000 in
theorem c_X12_clearStepper {σ : zq_S} (hσ : zx_T σ)  : zq_C zx_w yX12_clearStepper cX12_clearStepper 2 (none) 0 0 41 41 [ZR 0] σ (zq_pv (fun τ => zx_T τ ∧ (∀ a i : Int, (¬ (a = 0 ∧ i = 26) ∧ a ≠ 15) → τ a i = σ a i) ∧ (True))) := by
  refine zq_C_of (by decide) (Nat.le_refl _) (Nat.le_of_ble_eq_true rfl) [some (ZR 0), none] rfl (fun V hV => ?_)
  show V 0 [some (ZR 0), none] [] 41 σ
  refine zr_iconst (pc := 0) hV 0 dX12_clearStepper_0 rfl ?_
  refine zr_istore_n (pc := 1) hV [some (ZR 0), some (ZI 0)] dX12_clearStepper_1 rfl (by decide) rfl rfl ?_
  have L2 : ∀ (fuel : Nat) (x1_2 : Int) (σ_2 : zq_S), (0 ≤ x1_2 ∧ x1_2 ≤ 336) → (zx_T σ_2) → (∀ a i : Int, (¬ (a = 0 ∧ i = 26) ∧ a ≠ 15) → σ_2 a i = σ a i) → 336 - x1_2 < (fuel : Int) → V 2 [some (ZR 0), some (ZI x1_2)] [] 41 σ_2 := by
    intro fuel
    induction fuel with
    | zero =>
      intro x1_2 σ_2 hx1_2 hσ_2 hFσ_2 hm2
      exfalso; omega
    | succ fuel ih =>
      intro x1_2 σ_2 hx1_2 hσ_2 hFσ_2 hm2
      have ih2 := ih
      show V 2 [some (ZR 0), some (ZI x1_2)] [] 41 σ_2
      refine zr_iload_n (pc := 2) hV dX12_clearStepper_2 rfl rfl ?_
      refine zr_sipush (pc := 3) hV 336 dX12_clearStepper_3 (by decide) ?_
      refine zr_icmp_ge (pc := 6) hV 42 dX12_clearStepper_6 (by decide) (by omega) ⟨by decide, by decide⟩ (fun c1 => ?_) (fun c1 => ?_)
      · show V 42 [some (ZR 0), some (ZI x1_2)] [] 41 σ_2
        refine zr_aload_n (pc := 42) hV dX12_clearStepper_42 rfl rfl ?_
        refine zr_iconst (pc := 43) hV 0 dX12_clearStepper_43 rfl ?_
        refine zr_putI (pc := 44) hV 26 dX12_clearStepper_44 fX12_341 rfl rfl rfl rfl (by decide) (fun σ44 eσ44 => ?_)
        have hσ44 : zx_T σ44 := zx_u26 eσ44 hσ_2 (by omega)
        have hFσ44 : ∀ a i : Int, (¬ (a = 0 ∧ i = 26) ∧ a ≠ 15) → σ44 a i = σ a i := fun a i h => by rw [eσ44, zq_up_ne h.1]; exact hFσ_2 a i h
        exact zr_vret (pc := 47) hV dX12_clearStepper_47 rfl rfl ⟨rfl, hσ44, hFσ44, trivial⟩
      · show V 9 [some (ZR 0), some (ZI x1_2)] [] 41 σ_2
        refine zr_aload_n (pc := 9) hV dX12_clearStepper_9 rfl rfl ?_
        refine zr_getR (pc := 10) hV 24 15 dX12_clearStepper_10 fX12_62 rfl rfl rfl (by decide) (zx_g24 hσ_2) (by omega) ?_
        refine zr_iload_n (pc := 13) hV dX12_clearStepper_13 rfl rfl ?_
        refine zr_iload_n (pc := 14) hV dX12_clearStepper_14 rfl rfl ?_
        refine zr_sipush (pc := 15) hV 272 dX12_clearStepper_15 (by decide) ?_
        refine zr_icmp_lt (pc := 18) hV 34 dX12_clearStepper_18 (by decide) (by omega) ⟨by decide, by decide⟩ (fun c2 => ?_) (fun c2 => ?_)
        · show V 34 [some (ZR 0), some (ZI x1_2)] [ZI x1_2, ZR 15] 41 σ_2
          refine zr_iconst (pc := 34) hV 0 dX12_clearStepper_34 rfl ?_
          show V 35 [some (ZR 0), some (ZI x1_2)] [ZI 0, ZI x1_2, ZR 15] 41 σ_2
          refine zr_iast (pc := 35) hV dX12_clearStepper_35 rfl (by decide) rfl (by omega) (fun σ35 eσ35 => ?_)
          have hσ35 : zx_T σ35 := zx_ua15 eσ35 hσ_2 (by omega)
          have hFσ35 : ∀ a i : Int, (¬ (a = 0 ∧ i = 26) ∧ a ≠ 15) → σ35 a i = σ a i := fun a i h => by rw [eσ35, zq_up_ne (fun q => h.2 q.1)]; exact hFσ_2 a i h
          refine zr_iinc (pc := 36) hV [some (ZR 0), some (ZI (x1_2 + 1))] (x1_2 + 1) dX12_clearStepper_36 rfl rfl (by decide) rfl rfl ?_
          refine zr_goto (pc := 39) hV 2 dX12_clearStepper_39 (by decide) ?_
          exact ih2 (x1_2 + 1) σ35 (by omega) hσ35 hFσ35 (by omega)
        · show V 21 [some (ZR 0), some (ZI x1_2)] [ZI x1_2, ZR 15] 41 σ_2
          refine zr_iload_n (pc := 21) hV dX12_clearStepper_21 rfl rfl ?_
          refine zr_sipush (pc := 22) hV 272 dX12_clearStepper_22 (by decide) ?_
          refine zr_isub (pc := 25) hV dX12_clearStepper_25 ?_
          refine zr_iconst (pc := 26) hV 1 dX12_clearStepper_26 rfl ?_
          refine zr_iadd (pc := 27) hV dX12_clearStepper_27 ?_
          refine zr_bipush (pc := 28) hV 64 dX12_clearStepper_28 (by decide) ?_
          refine zr_irem (pc := 30) hV dX12_clearStepper_30 ⟨by decide, by decide⟩ (by omega) ?_
          have t3 := zq_rem_c (x := (x1_2 - 272) + 1) 64 (by decide) (by omega)
          refine zr_goto (pc := 31) hV 35 dX12_clearStepper_31 (by decide) ?_
          show V 35 [some (ZR 0), some (ZI x1_2)] [ZI (zq_rem ((x1_2 - 272) + 1) 64), ZI x1_2, ZR 15] 41 σ_2
          refine zr_iast (pc := 35) hV dX12_clearStepper_35 rfl (by decide) rfl (by omega) (fun σ35 eσ35 => ?_)
          have hσ35 : zx_T σ35 := zx_ua15 eσ35 hσ_2 (by omega)
          have hFσ35 : ∀ a i : Int, (¬ (a = 0 ∧ i = 26) ∧ a ≠ 15) → σ35 a i = σ a i := fun a i h => by rw [eσ35, zq_up_ne (fun q => h.2 q.1)]; exact hFσ_2 a i h
          refine zr_iinc (pc := 36) hV [some (ZR 0), some (ZI (x1_2 + 1))] (x1_2 + 1) dX12_clearStepper_36 rfl rfl (by decide) rfl rfl ?_
          refine zr_goto (pc := 39) hV 2 dX12_clearStepper_39 (by decide) ?_
          exact ih2 (x1_2 + 1) σ35 (by omega) hσ35 hFσ35 (by omega)
  exact L2 (336 - (0 : Int) + 1 : Int).toNat 0 σ (by omega) hσ (fun a i _ => rfl) (by omega)
set_option maxHeartbeats 800000 in
theorem c_X12_put {σ : zq_S} (hσ : zx_T σ) (place bits : Int) (q0 : zq_in place) (q1 : zq_in bits) (Kσ : zx_K σ) : zq_C zx_w yX12_put cX12_put 4 (some .int) 2 46 41 41 [ZR 0, ZI place, ZI bits] σ (zq_pi (fun r τ => zx_T τ ∧ (∀ a i : Int, (a ≠ 14) → τ a i = σ a i) ∧ (True) ∧ zx_K τ)) := by
  refine zq_C_of (by decide) (Nat.le_refl _) (Nat.le_of_ble_eq_true rfl) [some (ZR 0), some (ZI place), some (ZI bits), none] rfl (fun V hV => ?_)
  show V 0 [some (ZR 0), some (ZI place), some (ZI bits), none] [] 41 σ
  refine zr_iload_n (pc := 0) hV dX12_put_0 rfl rfl ?_
  refine zr_i2l (pc := 1) hV dX12_put_1 (by omega) ?_
  refine zr_lconst (pc := 2) hV 0 dX12_put_2 (by decide) ?_
  refine zr_ldc2 (pc := 3) (v := 63) hV 63 dX12_put_3 kX12_344 (by decide) ?_
  refine zr_callSp (pc := 6) hV [ZL place, ZL 0, ZL 63] (st := []) (c_X12_in (σ := σ) place 0 63 (by omega) (by omega) (by omega)) dX12_put_6 mX12_170 (by decide) (Nat.le_of_ble_eq_true rfl) (Nat.le_refl _) (fun r6 hr6 pr6 => ?_)
  refine zr_if_eq (pc := 9) hV 20 dX12_put_9 (by decide) (by omega) (fun c1 => ?_) (fun c1 => ?_)
  · show V 20 [some (ZR 0), some (ZI place), some (ZI bits), none] [] 41 σ
    refine zr_iconst (pc := 20) hV (-1) dX12_put_20 rfl ?_
    exact zr_iret (pc := 21) hV dX12_put_21 rfl rfl ⟨_, rfl, ⟨by decide, by decide⟩, hσ, (fun a i _ => rfl), trivial, Kσ⟩
  · show V 12 [some (ZR 0), some (ZI place), some (ZI bits), none] [] 41 σ
    refine zr_aload_n (pc := 12) hV dX12_put_12 rfl rfl ?_
    refine zr_iload_n (pc := 13) hV dX12_put_13 rfl rfl ?_
    refine zr_callVp (pc := 14) hV [ZI bits] (st := []) (c_X12_isBits (σ := σ) hσ bits (by omega)) dX12_put_14 mX12_280 rfl (by decide) (by decide) (Nat.le_of_ble_eq_true rfl) (Nat.le_refl _) (fun r14 hr14 pr14 => ?_)
    have t2 := zx_g2 hσ
    refine zr_if_ne (pc := 17) hV 22 dX12_put_17 (by decide) (by omega) (fun c3 => ?_) (fun c3 => ?_)
    · show V 22 [some (ZR 0), some (ZI place), some (ZI bits), none] [] 41 σ
      refine zr_aload_n (pc := 22) hV dX12_put_22 rfl rfl ?_
      refine zr_getR (pc := 23) hV 23 14 dX12_put_23 fX12_59 rfl rfl rfl (by decide) (zx_g23 hσ) (by omega) ?_
      refine zr_iload_n (pc := 26) hV dX12_put_26 rfl rfl ?_
      refine zr_iald (pc := 27) hV dX12_put_27 rfl (by decide) rfl (by omega) ?_
      have t4 := zx_ga14 hσ place
      refine zr_istore_n (pc := 28) hV [some (ZR 0), some (ZI place), some (ZI bits), some (ZI (σ 14 place))] dX12_put_28 rfl (by decide) rfl rfl ?_
      refine zr_aload_n (pc := 29) hV dX12_put_29 rfl rfl ?_
      refine zr_getR (pc := 30) hV 23 14 dX12_put_30 fX12_59 rfl rfl rfl (by decide) (zx_g23 hσ) (by omega) ?_
      refine zr_iload_n (pc := 33) hV dX12_put_33 rfl rfl ?_
      refine zr_iload_n (pc := 34) hV dX12_put_34 rfl rfl ?_
      refine zr_iast (pc := 35) hV dX12_put_35 rfl (by decide) rfl (by omega) (fun σ35 eσ35 => ?_)
      have hσ35 : zx_T σ35 := zx_ua14 eσ35 hσ (by omega)
      have hFσ35 : ∀ a i : Int, (a ≠ 14) → σ35 a i = σ a i := fun a i h => by rw [eσ35, zq_up_ne (fun q => h q.1)]
      have Kσ35 : zx_K σ35 := zx_K_up Kσ eσ35 (by omega)
      refine zr_iload_n (pc := 36) hV dX12_put_36 rfl rfl ?_
      exact zr_iret (pc := 37) hV dX12_put_37 rfl rfl ⟨_, rfl, (by omega), hσ35, hFσ35, trivial, Kσ35⟩
    · show V 20 [some (ZR 0), some (ZI place), some (ZI bits), none] [] 41 σ
      refine zr_iconst (pc := 20) hV (-1) dX12_put_20 rfl ?_
      exact zr_iret (pc := 21) hV dX12_put_21 rfl rfl ⟨_, rfl, ⟨by decide, by decide⟩, hσ, (fun a i _ => rfl), trivial, Kσ⟩
set_option maxHeartbeats 800000 in
theorem c_X12_code {σ : zq_S} (hσ : zx_T σ) (place : Int) (q0 : zq_in place) : zq_C zx_w yX12_code cX12_code 2 (some .int) 1 25 41 41 [ZR 0, ZI place] σ (zq_pp σ (fun r => True)) := by
  refine zq_C_of (by decide) (Nat.le_refl _) (Nat.le_of_ble_eq_true rfl) [some (ZR 0), some (ZI place)] rfl (fun V hV => ?_)
  show V 0 [some (ZR 0), some (ZI place)] [] 41 σ
  refine zr_iload_n (pc := 0) hV dX12_code_0 rfl rfl ?_
  refine zr_i2l (pc := 1) hV dX12_code_1 (by omega) ?_
  refine zr_lconst (pc := 2) hV 0 dX12_code_2 (by decide) ?_
  refine zr_ldc2 (pc := 3) (v := 63) hV 63 dX12_code_3 kX12_344 (by decide) ?_
  refine zr_callSp (pc := 6) hV [ZL place, ZL 0, ZL 63] (st := []) (c_X12_in (σ := σ) place 0 63 (by omega) (by omega) (by omega)) dX12_code_6 mX12_170 (by decide) (Nat.le_of_ble_eq_true rfl) (Nat.le_refl _) (fun r6 hr6 pr6 => ?_)
  refine zr_if_eq (pc := 9) hV 21 dX12_code_9 (by decide) (by omega) (fun c1 => ?_) (fun c1 => ?_)
  · show V 21 [some (ZR 0), some (ZI place)] [] 41 σ
    refine zr_iconst (pc := 21) hV (-1) dX12_code_21 rfl ?_
    show V 22 [some (ZR 0), some (ZI place)] [ZI (-1)] 41 σ
    exact zr_iret (pc := 22) hV dX12_code_22 rfl rfl ⟨rfl, _, rfl, ⟨by decide, by decide⟩, trivial⟩
  · show V 12 [some (ZR 0), some (ZI place)] [] 41 σ
    refine zr_aload_n (pc := 12) hV dX12_code_12 rfl rfl ?_
    refine zr_getR (pc := 13) hV 23 14 dX12_code_13 fX12_59 rfl rfl rfl (by decide) (zx_g23 hσ) (by omega) ?_
    refine zr_iload_n (pc := 16) hV dX12_code_16 rfl rfl ?_
    refine zr_iald (pc := 17) hV dX12_code_17 rfl (by decide) rfl (by omega) ?_
    have t2 := zx_ga14 hσ place
    refine zr_goto (pc := 18) hV 22 dX12_code_18 (by decide) ?_
    show V 22 [some (ZR 0), some (ZI place)] [ZI (σ 14 place)] 41 σ
    exact zr_iret (pc := 22) hV dX12_code_22 rfl rfl ⟨rfl, _, rfl, (by omega), trivial⟩
set_option maxHeartbeats 800000 in
theorem c_X12_placeOf {σ : zq_S} (hσ : zx_T σ) (what i : Int) (q0 : zq_in what) (q1 : zq_in i) : zq_C zx_w yX12_placeOf cX12_placeOf 3 (some .int) 1 25 41 41 [ZR 0, ZI what, ZI i] σ (zq_pp σ (fun r => -1 ≤ r ∧ r ≤ 265 ∧ (r = 264 → what = 2) ∧ (r = 265 → what = 3) ∧ (what = 2 → r = 264) ∧ (what = 3 → r = 265))) := by
  refine zq_C_of (by decide) (Nat.le_refl _) (Nat.le_of_ble_eq_true rfl) [some (ZR 0), some (ZI what), some (ZI i)] rfl (fun V hV => ?_)
  show V 0 [some (ZR 0), some (ZI what), some (ZI i)] [] 41 σ
  refine zr_iload_n (pc := 0) hV dX12_placeOf_0 rfl rfl ?_
  by_cases c1 : what = 0
  · refine zr_eqI (V := V) 0 c1 ?_
    refine zr_tableIn (pc := 1) hV 32 dX12_placeOf_1 ⟨by decide, by decide⟩ (by decide) (by decide) rfl (by decide) ?_
    show V 32 [some (ZR 0), some (ZI what), some (ZI i)] [] 41 σ
    refine zr_iload_n (pc := 32) hV dX12_placeOf_32 rfl rfl ?_
    refine zr_i2l (pc := 33) hV dX12_placeOf_33 (by omega) ?_
    refine zr_lconst (pc := 34) hV 0 dX12_placeOf_34 (by decide) ?_
    refine zr_iconst (pc := 35) hV 1 dX12_placeOf_35 rfl ?_
    refine zr_aload_n (pc := 36) hV dX12_placeOf_36 rfl rfl ?_
    refine zr_getI (pc := 37) hV 1 dX12_placeOf_37 fX12_13 rfl rfl rfl (by decide) ?_
    have t2 := zx_g1 hσ
    refine zr_ishl (pc := 40) hV dX12_placeOf_40 ?_
    have t3 := zx_shl_one (y := σ 0 1) 3 8 (by decide) (by decide) (by omega)
    refine zr_iconst (pc := 41) hV 1 dX12_placeOf_41 rfl ?_
    refine zr_isub (pc := 42) hV dX12_placeOf_42 ?_
    refine zr_i2l (pc := 43) hV dX12_placeOf_43 (by omega) ?_
    refine zr_callSp (pc := 44) hV [ZL i, ZL 0, ZL ((zq_shl 1 (σ 0 1)) - 1)] (st := []) (c_X12_in (σ := σ) i 0 ((zq_shl 1 (σ 0 1)) - 1) (by omega) (by omega) (by omega)) dX12_placeOf_44 mX12_170 (by decide) (Nat.le_of_ble_eq_true rfl) (Nat.le_refl _) (fun r44 hr44 pr44 => ?_)
    refine zr_if_eq (pc := 47) hV 54 dX12_placeOf_47 (by decide) (by omega) (fun c4 => ?_) (fun c4 => ?_)
    · show V 54 [some (ZR 0), some (ZI what), some (ZI i)] [] 41 σ
      refine zr_iconst (pc := 54) hV (-1) dX12_placeOf_54 rfl ?_
      show V 55 [some (ZR 0), some (ZI what), some (ZI i)] [ZI (-1)] 41 σ
      exact zr_iret (pc := 55) hV dX12_placeOf_55 rfl rfl ⟨rfl, _, rfl, ⟨by decide, by decide⟩, (by omega)⟩
    · show V 50 [some (ZR 0), some (ZI what), some (ZI i)] [] 41 σ
      refine zr_iload_n (pc := 50) hV dX12_placeOf_50 rfl rfl ?_
      refine zr_goto (pc := 51) hV 55 dX12_placeOf_51 (by decide) ?_
      show V 55 [some (ZR 0), some (ZI what), some (ZI i)] [ZI i] 41 σ
      exact zr_iret (pc := 55) hV dX12_placeOf_55 rfl rfl ⟨rfl, _, rfl, (by omega), (by omega)⟩
  by_cases c5 : what = 1
  · refine zr_eqI (V := V) 1 c5 ?_
    refine zr_tableIn (pc := 1) hV 56 dX12_placeOf_1 ⟨by decide, by decide⟩ (by decide) (by decide) rfl (by decide) ?_
    show V 56 [some (ZR 0), some (ZI what), some (ZI i)] [] 41 σ
    refine zr_iload_n (pc := 56) hV dX12_placeOf_56 rfl rfl ?_
    refine zr_i2l (pc := 57) hV dX12_placeOf_57 (by omega) ?_
    refine zr_lconst (pc := 58) hV 0 dX12_placeOf_58 (by decide) ?_
    refine zr_aload_n (pc := 59) hV dX12_placeOf_59 rfl rfl ?_
    refine zr_callVp (pc := 60) hV [] (st := [ZL 0, ZL i]) (c_X12_mask (σ := σ) hσ ) dX12_placeOf_60 mX12_346 rfl (by decide) (by decide) (Nat.le_of_ble_eq_true rfl) (Nat.le_refl _) (fun r60 hr60 pr60 => ?_)
    refine zr_i2l (pc := 63) hV dX12_placeOf_63 (by omega) ?_
    refine zr_callSp (pc := 64) hV [ZL i, ZL 0, ZL r60] (st := []) (c_X12_in (σ := σ) i 0 r60 (by omega) (by omega) (by omega)) dX12_placeOf_64 mX12_170 (by decide) (Nat.le_of_ble_eq_true rfl) (Nat.le_refl _) (fun r64 hr64 pr64 => ?_)
    refine zr_if_eq (pc := 67) hV 77 dX12_placeOf_67 (by decide) (by omega) (fun c6 => ?_) (fun c6 => ?_)
    · show V 77 [some (ZR 0), some (ZI what), some (ZI i)] [] 41 σ
      refine zr_iconst (pc := 77) hV (-1) dX12_placeOf_77 rfl ?_
      show V 78 [some (ZR 0), some (ZI what), some (ZI i)] [ZI (-1)] 41 σ
      exact zr_iret (pc := 78) hV dX12_placeOf_78 rfl rfl ⟨rfl, _, rfl, ⟨by decide, by decide⟩, (by omega)⟩
    · show V 70 [some (ZR 0), some (ZI what), some (ZI i)] [] 41 σ
      refine zr_bipush (pc := 70) hV 8 dX12_placeOf_70 (by decide) ?_
      refine zr_iload_n (pc := 72) hV dX12_placeOf_72 rfl rfl ?_
      refine zr_iadd (pc := 73) hV dX12_placeOf_73 ?_
      refine zr_goto (pc := 74) hV 78 dX12_placeOf_74 (by decide) ?_
      show V 78 [some (ZR 0), some (ZI what), some (ZI i)] [ZI (8 + i)] 41 σ
      exact zr_iret (pc := 78) hV dX12_placeOf_78 rfl rfl ⟨rfl, _, rfl, (by omega), (by omega)⟩
  by_cases c7 : what = 2
  · refine zr_eqI (V := V) 2 c7 ?_
    refine zr_tableIn (pc := 1) hV 79 dX12_placeOf_1 ⟨by decide, by decide⟩ (by decide) (by decide) rfl (by decide) ?_
    show V 79 [some (ZR 0), some (ZI what), some (ZI i)] [] 41 σ
    refine zr_sipush (pc := 79) hV 264 dX12_placeOf_79 (by decide) ?_
    exact zr_iret (pc := 82) hV dX12_placeOf_82 rfl rfl ⟨rfl, _, rfl, ⟨by decide, by decide⟩, (by omega)⟩
  by_cases c8 : what = 3
  · refine zr_eqI (V := V) 3 c8 ?_
    refine zr_tableIn (pc := 1) hV 83 dX12_placeOf_1 ⟨by decide, by decide⟩ (by decide) (by decide) rfl (by decide) ?_
    show V 83 [some (ZR 0), some (ZI what), some (ZI i)] [] 41 σ
    refine zr_sipush (pc := 83) hV 265 dX12_placeOf_83 (by decide) ?_
    exact zr_iret (pc := 86) hV dX12_placeOf_86 rfl rfl ⟨rfl, _, rfl, ⟨by decide, by decide⟩, (by omega)⟩
  refine zr_tableOut (pc := 1) hV 87 dX12_placeOf_1 (by omega) (by omega) (by decide) ?_
  show V 87 [some (ZR 0), some (ZI what), some (ZI i)] [] 41 σ
  refine zr_iconst (pc := 87) hV (-1) dX12_placeOf_87 rfl ?_
  exact zr_iret (pc := 88) hV dX12_placeOf_88 rfl rfl ⟨rfl, _, rfl, ⟨by decide, by decide⟩, (by omega)⟩
set_option maxHeartbeats 800000 in
theorem c_X12_shared {σ : zq_S} (hσ : zx_T σ)  : zq_C zx_w yX12_shared cX12_shared 1 (some .int) 0 0 41 41 [ZR 0] σ (zq_pp σ (fun r => True)) := by
  refine zq_C_of (by decide) (Nat.le_refl _) (Nat.le_of_ble_eq_true rfl) [some (ZR 0)] rfl (fun V hV => ?_)
  show V 0 [some (ZR 0)] [] 41 σ
  refine zr_aload_n (pc := 0) hV dX12_shared_0 rfl rfl ?_
  refine zr_getI (pc := 1) hV 18 dX12_shared_1 fX12_157 rfl rfl rfl (by decide) ?_
  have t1 := zx_g18 hσ
  exact zr_iret (pc := 4) hV dX12_shared_4 rfl rfl ⟨rfl, _, rfl, (by omega), trivial⟩
set_option maxHeartbeats 800000 in
theorem c_X12_count {σ : zq_S} (hσ : zx_T σ) (what : Int) (q0 : zq_in what) : zq_C zx_w yX12_count cX12_count 2 (some .int) 0 0 41 41 [ZR 0, ZI what] σ (zq_pp σ (fun r => True)) := by
  refine zq_C_of (by decide) (Nat.le_refl _) (Nat.le_of_ble_eq_true rfl) [some (ZR 0), some (ZI what)] rfl (fun V hV => ?_)
  show V 0 [some (ZR 0), some (ZI what)] [] 41 σ
  refine zr_iload_n (pc := 0) hV dX12_count_0 rfl rfl ?_
  refine zr_if_ne (pc := 1) hV 11 dX12_count_1 (by decide) (by omega) (fun c1 => ?_) (fun c1 => ?_)
  · show V 11 [some (ZR 0), some (ZI what)] [] 41 σ
    refine zr_iload_n (pc := 11) hV dX12_count_11 rfl rfl ?_
    refine zr_iconst (pc := 12) hV 1 dX12_count_12 rfl ?_
    refine zr_icmp_ne (pc := 13) hV 25 dX12_count_13 (by decide) (by omega) ⟨by decide, by decide⟩ (fun c2 => ?_) (fun c2 => ?_)
    · show V 25 [some (ZR 0), some (ZI what)] [] 41 σ
      refine zr_iload_n (pc := 25) hV dX12_count_25 rfl rfl ?_
      refine zr_iconst (pc := 26) hV 2 dX12_count_26 rfl ?_
      refine zr_icmp_ne (pc := 27) hV 39 dX12_count_27 (by decide) (by omega) ⟨by decide, by decide⟩ (fun c3 => ?_) (fun c3 => ?_)
      · show V 39 [some (ZR 0), some (ZI what)] [] 41 σ
        refine zr_iload_n (pc := 39) hV dX12_count_39 rfl rfl ?_
        refine zr_iconst (pc := 40) hV 3 dX12_count_40 rfl ?_
        refine zr_icmp_ne (pc := 41) hV 51 dX12_count_41 (by decide) (by omega) ⟨by decide, by decide⟩ (fun c4 => ?_) (fun c4 => ?_)
        · show V 51 [some (ZR 0), some (ZI what)] [] 41 σ
          refine zr_iload_n (pc := 51) hV dX12_count_51 rfl rfl ?_
          refine zr_iconst (pc := 52) hV 4 dX12_count_52 rfl ?_
          refine zr_icmp_ne (pc := 53) hV 63 dX12_count_53 (by decide) (by omega) ⟨by decide, by decide⟩ (fun c5 => ?_) (fun c5 => ?_)
          · show V 63 [some (ZR 0), some (ZI what)] [] 41 σ
            refine zr_iconst (pc := 63) hV (-1) dX12_count_63 rfl ?_
            show V 64 [some (ZR 0), some (ZI what)] [ZI (-1)] 41 σ
            exact zr_iret (pc := 64) hV dX12_count_64 rfl rfl ⟨rfl, _, rfl, ⟨by decide, by decide⟩, trivial⟩
          · show V 56 [some (ZR 0), some (ZI what)] [] 41 σ
            refine zr_aload_n (pc := 56) hV dX12_count_56 rfl rfl ?_
            refine zr_getI (pc := 57) hV 29 dX12_count_57 fX12_72 rfl rfl rfl (by decide) ?_
            have t6 := zx_g29 hσ
            refine zr_goto (pc := 60) hV 64 dX12_count_60 (by decide) ?_
            show V 64 [some (ZR 0), some (ZI what)] [ZI (σ 0 29)] 41 σ
            exact zr_iret (pc := 64) hV dX12_count_64 rfl rfl ⟨rfl, _, rfl, (by omega), trivial⟩
        · show V 44 [some (ZR 0), some (ZI what)] [] 41 σ
          refine zr_aload_n (pc := 44) hV dX12_count_44 rfl rfl ?_
          refine zr_getI (pc := 45) hV 35 dX12_count_45 fX12_84 rfl rfl rfl (by decide) ?_
          have t7 := zx_g35 hσ
          refine zr_goto (pc := 48) hV 64 dX12_count_48 (by decide) ?_
          show V 64 [some (ZR 0), some (ZI what)] [ZI (σ 0 35)] 41 σ
          exact zr_iret (pc := 64) hV dX12_count_64 rfl rfl ⟨rfl, _, rfl, (by omega), trivial⟩
      · show V 30 [some (ZR 0), some (ZI what)] [] 41 σ
        refine zr_iconst (pc := 30) hV 1 dX12_count_30 rfl ?_
        refine zr_aload_n (pc := 31) hV dX12_count_31 rfl rfl ?_
        refine zr_getI (pc := 32) hV 0 dX12_count_32 fX12_7 rfl rfl rfl (by decide) ?_
        have t8 := zx_g0 hσ
        refine zr_ishl (pc := 35) hV dX12_count_35 ?_
        have t9 := zx_shl_one (y := σ 0 0) 8 256 (by decide) (by decide) (by omega)
        refine zr_goto (pc := 36) hV 64 dX12_count_36 (by decide) ?_
        show V 64 [some (ZR 0), some (ZI what)] [ZI (zq_shl 1 (σ 0 0))] 41 σ
        exact zr_iret (pc := 64) hV dX12_count_64 rfl rfl ⟨rfl, _, rfl, (by omega), trivial⟩
    · show V 16 [some (ZR 0), some (ZI what)] [] 41 σ
      refine zr_iconst (pc := 16) hV 1 dX12_count_16 rfl ?_
      refine zr_aload_n (pc := 17) hV dX12_count_17 rfl rfl ?_
      refine zr_getI (pc := 18) hV 1 dX12_count_18 fX12_13 rfl rfl rfl (by decide) ?_
      have t10 := zx_g1 hσ
      refine zr_ishl (pc := 21) hV dX12_count_21 ?_
      have t11 := zx_shl_one (y := σ 0 1) 3 8 (by decide) (by decide) (by omega)
      refine zr_goto (pc := 22) hV 64 dX12_count_22 (by decide) ?_
      show V 64 [some (ZR 0), some (ZI what)] [ZI (zq_shl 1 (σ 0 1))] 41 σ
      exact zr_iret (pc := 64) hV dX12_count_64 rfl rfl ⟨rfl, _, rfl, (by omega), trivial⟩
  · show V 4 [some (ZR 0), some (ZI what)] [] 41 σ
    refine zr_aload_n (pc := 4) hV dX12_count_4 rfl rfl ?_
    refine zr_getI (pc := 5) hV 3 dX12_count_5 fX12_150 rfl rfl rfl (by decide) ?_
    have t12 := zx_g3 hσ
    refine zr_goto (pc := 8) hV 64 dX12_count_8 (by decide) ?_
    show V 64 [some (ZR 0), some (ZI what)] [ZI (σ 0 3)] 41 σ
    exact zr_iret (pc := 64) hV dX12_count_64 rfl rfl ⟨rfl, _, rfl, (by omega), trivial⟩
set_option maxHeartbeats 800000 in
theorem c_X12_so {σ : zq_S} (hσ : zx_T σ) (what : Int) (q0 : zq_in what) : zq_C zx_w yX12_so cX12_so 2 (some .int) 1 25 41 41 [ZR 0, ZI what] σ (zq_pp σ (fun r => True)) := by
  refine zq_C_of (by decide) (Nat.le_refl _) (Nat.le_of_ble_eq_true rfl) [some (ZR 0), some (ZI what)] rfl (fun V hV => ?_)
  show V 0 [some (ZR 0), some (ZI what)] [] 41 σ
  refine zr_iload_n (pc := 0) hV dX12_so_0 rfl rfl ?_
  refine zr_i2l (pc := 1) hV dX12_so_1 (by omega) ?_
  refine zr_lconst (pc := 2) hV 0 dX12_so_2 (by decide) ?_
  refine zr_ldc2 (pc := 3) (v := 3) hV 3 dX12_so_3 kX12_174 (by decide) ?_
  refine zr_callSp (pc := 6) hV [ZL what, ZL 0, ZL 3] (st := []) (c_X12_in (σ := σ) what 0 3 (by omega) (by omega) (by omega)) dX12_so_6 mX12_170 (by decide) (Nat.le_of_ble_eq_true rfl) (Nat.le_refl _) (fun r6 hr6 pr6 => ?_)
  refine zr_if_eq (pc := 9) hV 25 dX12_so_9 (by decide) (by omega) (fun c1 => ?_) (fun c1 => ?_)
  · show V 25 [some (ZR 0), some (ZI what)] [] 41 σ
    refine zr_iconst (pc := 25) hV (-1) dX12_so_25 rfl ?_
    show V 26 [some (ZR 0), some (ZI what)] [ZI (-1)] 41 σ
    exact zr_iret (pc := 26) hV dX12_so_26 rfl rfl ⟨rfl, _, rfl, ⟨by decide, by decide⟩, trivial⟩
  · show V 12 [some (ZR 0), some (ZI what)] [] 41 σ
    refine zr_aload_n (pc := 12) hV dX12_so_12 rfl rfl ?_
    refine zr_getR (pc := 13) hV 24 15 dX12_so_13 fX12_62 rfl rfl rfl (by decide) (zx_g24 hσ) (by omega) ?_
    refine zr_sipush (pc := 16) hV 266 dX12_so_16 (by decide) ?_
    refine zr_iload_n (pc := 19) hV dX12_so_19 rfl rfl ?_
    refine zr_iadd (pc := 20) hV dX12_so_20 ?_
    refine zr_iald (pc := 21) hV dX12_so_21 rfl (by decide) rfl (by omega) ?_
    have t2 := zx_st hσ (266 + what)
    refine zr_goto (pc := 22) hV 26 dX12_so_22 (by decide) ?_
    show V 26 [some (ZR 0), some (ZI what)] [ZI (σ 15 (266 + what))] 41 σ
    exact zr_iret (pc := 26) hV dX12_so_26 rfl rfl ⟨rfl, _, rfl, (by omega), trivial⟩
set_option maxHeartbeats 800000 in
theorem c_X12_write {σ : zq_S} (hσ : zx_T σ) (c : Int) (q0 : zq_in c) (q1 : σ 0 34 < 24) : zq_C zx_w yX12_write cX12_write 2 (none) 0 0 41 41 [ZR 0, ZI c] σ (zq_pv (fun τ => zx_T τ ∧ (∀ a i : Int, (¬ (a = 0 ∧ i = 34) ∧ a ≠ 20) → τ a i = σ a i) ∧ (τ 0 34 = σ 0 34 + 1))) := by
  refine zq_C_of (by decide) (Nat.le_refl _) (Nat.le_of_ble_eq_true rfl) [some (ZR 0), some (ZI c)] rfl (fun V hV => ?_)
  show V 0 [some (ZR 0), some (ZI c)] [] 41 σ
  refine zr_aload_n (pc := 0) hV dX12_write_0 rfl rfl ?_
  refine zr_getR (pc := 1) hV 33 20 dX12_write_1 fX12_81 rfl rfl rfl (by decide) (zx_g33 hσ) (by omega) ?_
  refine zr_aload_n (pc := 4) hV dX12_write_4 rfl rfl ?_
  refine zr_getI (pc := 5) hV 34 dX12_write_5 fX12_396 rfl rfl rfl (by decide) ?_
  have t1 := zx_g34 hσ
  refine zr_iload_n (pc := 8) hV dX12_write_8 rfl rfl ?_
  refine zr_iast (pc := 9) hV dX12_write_9 rfl (by decide) rfl (by omega) (fun σ9 eσ9 => ?_)
  have hσ9 : zx_T σ9 := zx_ua20 eσ9 hσ (by omega)
  have hFσ9 : ∀ a i : Int, (¬ (a = 0 ∧ i = 34) ∧ a ≠ 20) → σ9 a i = σ a i := fun a i h => by rw [eσ9, zq_up_ne (fun q => h.2 q.1)]
  refine zr_aload_n (pc := 10) hV dX12_write_10 rfl rfl ?_
  refine zr_dup (pc := 11) hV dX12_write_11 (fun _ => rfl) ?_
  refine zr_getI (pc := 12) hV 34 dX12_write_12 fX12_396 rfl rfl rfl (by decide) ?_
  have t2 := zx_g34 hσ9
  have t3 : σ9 0 34 = σ 0 34 := by rw [eσ9]; exact zq_up_ne (by omega)
  refine zr_iconst (pc := 15) hV 1 dX12_write_15 rfl ?_
  refine zr_iadd (pc := 16) hV dX12_write_16 ?_
  refine zr_putI (pc := 17) hV 34 dX12_write_17 fX12_396 rfl rfl rfl rfl (by decide) (fun σ17 eσ17 => ?_)
  have hσ17 : zx_T σ17 := zx_u34 eσ17 hσ9 (by omega)
  have hFσ17 : ∀ a i : Int, (¬ (a = 0 ∧ i = 34) ∧ a ≠ 20) → σ17 a i = σ a i := fun a i h => by rw [eσ17, zq_up_ne h.1]; exact hFσ9 a i h
  have t4 := zx_g34 hσ17
  have t5 : σ17 0 34 = (σ9 0 34) + 1 := by rw [eσ17]; exact zq_up_same _ _ _ _
  exact zr_vret (pc := 20) hV dX12_write_20 rfl rfl ⟨rfl, hσ17, hFσ17, (by omega)⟩
set_option maxHeartbeats 800000 in
theorem c_X12_isSheet {σ : zq_S} (s lane : Int) (q0 : zq_in s) (q1 : zq_in lane) : zq_C zx_w yX12_isSheet cX12_isSheet 2 (some .boolean) 1 25 41 41 [ZI s, ZI lane] σ (zq_pp σ (fun r => (r = 0 ∨ r = 1) ∧ (r = 1 ↔ 0 ≤ s ∧ s ≤ 3 ∧ 0 ≤ lane ∧ lane ≤ 2))) := by
  refine zq_C_of (by decide) (Nat.le_refl _) (Nat.le_of_ble_eq_true rfl) [some (ZI s), some (ZI lane)] rfl (fun V hV => ?_)
  show V 0 [some (ZI s), some (ZI lane)] [] 41 σ
  refine zr_iload_n (pc := 0) hV dX12_isSheet_0 rfl rfl ?_
  refine zr_i2l (pc := 1) hV dX12_isSheet_1 (by omega) ?_
  refine zr_lconst (pc := 2) hV 0 dX12_isSheet_2 (by decide) ?_
  refine zr_ldc2 (pc := 3) (v := 3) hV 3 dX12_isSheet_3 kX12_174 (by decide) ?_
  refine zr_callSp (pc := 6) hV [ZL s, ZL 0, ZL 3] (st := []) (c_X12_in (σ := σ) s 0 3 (by omega) (by omega) (by omega)) dX12_isSheet_6 mX12_170 (by decide) (Nat.le_of_ble_eq_true rfl) (Nat.le_refl _) (fun r6 hr6 pr6 => ?_)
  refine zr_if_eq (pc := 9) hV 28 dX12_isSheet_9 (by decide) (by omega) (fun c1 => ?_) (fun c1 => ?_)
  · show V 28 [some (ZI s), some (ZI lane)] [] 41 σ
    refine zr_iconst (pc := 28) hV 0 dX12_isSheet_28 rfl ?_
    show V 29 [some (ZI s), some (ZI lane)] [ZI 0] 41 σ
    exact zr_zret (pc := 29) hV dX12_isSheet_29 rfl rfl (by omega) ⟨rfl, _, rfl, ⟨by decide, by decide⟩, (by omega)⟩
  · show V 12 [some (ZI s), some (ZI lane)] [] 41 σ
    refine zr_iload_n (pc := 12) hV dX12_isSheet_12 rfl rfl ?_
    refine zr_i2l (pc := 13) hV dX12_isSheet_13 (by omega) ?_
    refine zr_lconst (pc := 14) hV 0 dX12_isSheet_14 (by decide) ?_
    refine zr_ldc2 (pc := 15) (v := 2) hV 2 dX12_isSheet_15 kX12_166 (by decide) ?_
    refine zr_callSp (pc := 18) hV [ZL lane, ZL 0, ZL 2] (st := []) (c_X12_in (σ := σ) lane 0 2 (by omega) (by omega) (by omega)) dX12_isSheet_18 mX12_170 (by decide) (Nat.le_of_ble_eq_true rfl) (Nat.le_refl _) (fun r18 hr18 pr18 => ?_)
    refine zr_if_eq (pc := 21) hV 28 dX12_isSheet_21 (by decide) (by omega) (fun c2 => ?_) (fun c2 => ?_)
    · show V 28 [some (ZI s), some (ZI lane)] [] 41 σ
      refine zr_iconst (pc := 28) hV 0 dX12_isSheet_28 rfl ?_
      show V 29 [some (ZI s), some (ZI lane)] [ZI 0] 41 σ
      exact zr_zret (pc := 29) hV dX12_isSheet_29 rfl rfl (by omega) ⟨rfl, _, rfl, ⟨by decide, by decide⟩, (by omega)⟩
    · show V 24 [some (ZI s), some (ZI lane)] [] 41 σ
      refine zr_iconst (pc := 24) hV 1 dX12_isSheet_24 rfl ?_
      refine zr_goto (pc := 25) hV 29 dX12_isSheet_25 (by decide) ?_
      show V 29 [some (ZI s), some (ZI lane)] [ZI 1] 41 σ
      exact zr_zret (pc := 29) hV dX12_isSheet_29 rfl rfl (by omega) ⟨rfl, _, rfl, ⟨by decide, by decide⟩, (by omega)⟩
set_option maxHeartbeats 800000 in
theorem c_X12_against {σ : zq_S} (hσ : zx_T σ) (sheet lane from_ many : Int) (q0 : 0 ≤ sheet ∧ sheet ≤ 3) (q1 : zq_in lane) (q2 : zq_in from_) (q3 : 0 ≤ many ∧ many ≤ 30) : zq_C zx_w yX12_against cX12_against 5 (some .int) 1 25 41 41 [ZR 0, ZI sheet, ZI lane, ZI from_, ZI many] σ (zq_pp σ (fun r => r ≤ 0 ∧ (r = 0 → 0 ≤ from_ ∧ from_ + many ≤ 30))) := by
  refine zq_C_of (by decide) (Nat.le_refl _) (Nat.le_of_ble_eq_true rfl) [some (ZR 0), some (ZI sheet), some (ZI lane), some (ZI from_), some (ZI many)] rfl (fun V hV => ?_)
  show V 0 [some (ZR 0), some (ZI sheet), some (ZI lane), some (ZI from_), some (ZI many)] [] 41 σ
  refine zr_aload_n (pc := 0) hV dX12_against_0 rfl rfl ?_
  refine zr_getR (pc := 1) hV 62 38 dX12_against_1 fX12_138 rfl rfl rfl (by decide) (zx_g62 hσ) (by omega) ?_
  refine zr_iload_n (pc := 4) hV dX12_against_4 rfl rfl ?_
  refine zr_iald (pc := 5) hV dX12_against_5 rfl (by decide) rfl (by omega) ?_
  have t1 := zx_ga38 hσ sheet
  refine zr_iload_n (pc := 6) hV dX12_against_6 rfl rfl ?_
  refine zr_icmp_eq (pc := 7) hV 27 dX12_against_7 (by decide) (by omega) (by omega) (fun c2 => ?_) (fun c2 => ?_)
  · show V 27 [some (ZR 0), some (ZI sheet), some (ZI lane), some (ZI from_), some (ZI many)] [] 41 σ
    refine zr_iload_n (pc := 27) hV dX12_against_27 rfl rfl ?_
    refine zr_i2l (pc := 28) hV dX12_against_28 (by omega) ?_
    refine zr_lconst (pc := 29) hV 0 dX12_against_29 (by decide) ?_
    refine zr_aload_n (pc := 30) hV dX12_against_30 rfl rfl ?_
    refine zr_getR (pc := 31) hV 63 39 dX12_against_31 fX12_141 rfl rfl rfl (by decide) (zx_g63 hσ) (by omega) ?_
    refine zr_iload_n (pc := 34) hV dX12_against_34 rfl rfl ?_
    refine zr_iald (pc := 35) hV dX12_against_35 rfl (by decide) rfl (by omega) ?_
    have t3 := zx_ga39 hσ sheet
    refine zr_iload (pc := 36) hV dX12_against_36 rfl ?_
    refine zr_isub (pc := 38) hV dX12_against_38 ?_
    refine zr_i2l (pc := 39) hV dX12_against_39 (by omega) ?_
    refine zr_callSp (pc := 40) hV [ZL from_, ZL 0, ZL ((σ 39 sheet) - many)] (st := []) (c_X12_in (σ := σ) from_ 0 ((σ 39 sheet) - many) (by omega) (by omega) (by omega)) dX12_against_40 mX12_170 (by decide) (Nat.le_of_ble_eq_true rfl) (Nat.le_refl _) (fun r40 hr40 pr40 => ?_)
    refine zr_if_eq (pc := 43) hV 50 dX12_against_43 (by decide) (by omega) (fun c4 => ?_) (fun c4 => ?_)
    · show V 50 [some (ZR 0), some (ZI sheet), some (ZI lane), some (ZI from_), some (ZI many)] [] 41 σ
      refine zr_bipush (pc := 50) hV (-13) dX12_against_50 (by decide) ?_
      show V 52 [some (ZR 0), some (ZI sheet), some (ZI lane), some (ZI from_), some (ZI many)] [ZI (-13)] 41 σ
      exact zr_iret (pc := 52) hV dX12_against_52 rfl rfl ⟨rfl, _, rfl, ⟨by decide, by decide⟩, (by omega)⟩
    · show V 46 [some (ZR 0), some (ZI sheet), some (ZI lane), some (ZI from_), some (ZI many)] [] 41 σ
      refine zr_iconst (pc := 46) hV 0 dX12_against_46 rfl ?_
      refine zr_goto (pc := 47) hV 52 dX12_against_47 (by decide) ?_
      show V 52 [some (ZR 0), some (ZI sheet), some (ZI lane), some (ZI from_), some (ZI many)] [ZI 0] 41 σ
      exact zr_iret (pc := 52) hV dX12_against_52 rfl rfl ⟨rfl, _, rfl, ⟨by decide, by decide⟩, (by omega)⟩
  · show V 10 [some (ZR 0), some (ZI sheet), some (ZI lane), some (ZI from_), some (ZI many)] [] 41 σ
    refine zr_aload_n (pc := 10) hV dX12_against_10 rfl rfl ?_
    refine zr_getR (pc := 11) hV 62 38 dX12_against_11 fX12_138 rfl rfl rfl (by decide) (zx_g62 hσ) (by omega) ?_
    refine zr_iload_n (pc := 14) hV dX12_against_14 rfl rfl ?_
    refine zr_iald (pc := 15) hV dX12_against_15 rfl (by decide) rfl (by omega) ?_
    have t5 := zx_ga38 hσ sheet
    refine zr_if_ge (pc := 16) hV 24 dX12_against_16 (by decide) (by omega) (fun c6 => ?_) (fun c6 => ?_)
    · show V 24 [some (ZR 0), some (ZI sheet), some (ZI lane), some (ZI from_), some (ZI many)] [] 41 σ
      refine zr_bipush (pc := 24) hV (-12) dX12_against_24 (by decide) ?_
      show V 26 [some (ZR 0), some (ZI sheet), some (ZI lane), some (ZI from_), some (ZI many)] [ZI (-12)] 41 σ
      exact zr_iret (pc := 26) hV dX12_against_26 rfl rfl ⟨rfl, _, rfl, ⟨by decide, by decide⟩, (by omega)⟩
    · show V 19 [some (ZR 0), some (ZI sheet), some (ZI lane), some (ZI from_), some (ZI many)] [] 41 σ
      refine zr_bipush (pc := 19) hV (-11) dX12_against_19 (by decide) ?_
      refine zr_goto (pc := 21) hV 26 dX12_against_21 (by decide) ?_
      show V 26 [some (ZR 0), some (ZI sheet), some (ZI lane), some (ZI from_), some (ZI many)] [ZI (-11)] 41 σ
      exact zr_iret (pc := 26) hV dX12_against_26 rfl rfl ⟨rfl, _, rfl, ⟨by decide, by decide⟩, (by omega)⟩
set_option maxHeartbeats 800000 in
theorem c_X12_isSo {σ : zq_S} (hσ : zx_T σ) (p : Int) (q0 : 0 ≤ p ∧ p ≤ 117) : zq_C zx_w yX12_isSo cX12_isSo 4 (some .boolean) 1 25 41 41 [ZR 0, ZI p] σ (zq_pp σ (fun r => (r = 0 ∨ r = 1))) := by
  refine zq_C_of (by decide) (Nat.le_refl _) (Nat.le_of_ble_eq_true rfl) [some (ZR 0), some (ZI p), none, none] rfl (fun V hV => ?_)
  show V 0 [some (ZR 0), some (ZI p), none, none] [] 41 σ
  refine zr_aload_n (pc := 0) hV dX12_isSo_0 rfl rfl ?_
  refine zr_getR (pc := 1) hV 64 40 dX12_isSo_1 fX12_144 rfl rfl rfl (by decide) (zx_g64 hσ) (by omega) ?_
  refine zr_iload_n (pc := 4) hV dX12_isSo_4 rfl rfl ?_
  refine zr_iald (pc := 5) hV dX12_isSo_5 rfl (by decide) rfl (by omega) ?_
  have t1 := zx_ga40 hσ p
  refine zr_istore_n (pc := 6) hV [some (ZR 0), some (ZI p), some (ZI (σ 40 p)), none] dX12_isSo_6 rfl (by decide) rfl rfl ?_
  refine zr_aload_n (pc := 7) hV dX12_isSo_7 rfl rfl ?_
  refine zr_getR (pc := 8) hV 64 40 dX12_isSo_8 fX12_144 rfl rfl rfl (by decide) (zx_g64 hσ) (by omega) ?_
  refine zr_iload_n (pc := 11) hV dX12_isSo_11 rfl rfl ?_
  refine zr_iconst (pc := 12) hV 1 dX12_isSo_12 rfl ?_
  refine zr_iadd (pc := 13) hV dX12_isSo_13 ?_
  refine zr_iald (pc := 14) hV dX12_isSo_14 rfl (by decide) rfl (by omega) ?_
  have t2 := zx_ga40 hσ (p + 1)
  refine zr_istore_n (pc := 15) hV [some (ZR 0), some (ZI p), some (ZI (σ 40 p)), some (ZI (σ 40 (p + 1)))] dX12_isSo_15 rfl (by decide) rfl rfl ?_
  refine zr_iload_n (pc := 16) hV dX12_isSo_16 rfl rfl ?_
  refine zr_aload_n (pc := 17) hV dX12_isSo_17 rfl rfl ?_
  refine zr_getR (pc := 18) hV 24 15 dX12_isSo_18 fX12_62 rfl rfl rfl (by decide) (zx_g24 hσ) (by omega) ?_
  refine zr_sipush (pc := 21) hV 265 dX12_isSo_21 (by decide) ?_
  refine zr_iald (pc := 24) hV dX12_isSo_24 rfl (by decide) rfl (by omega) ?_
  have t3 := zx_stP hσ
  refine zr_icmp_ne (pc := 25) hV 67 dX12_isSo_25 (by decide) (by omega) (by omega) (fun c4 => ?_) (fun c4 => ?_)
  · show V 67 [some (ZR 0), some (ZI p), some (ZI (σ 40 p)), some (ZI (σ 40 (p + 1)))] [] 41 σ
    refine zr_iconst (pc := 67) hV 0 dX12_isSo_67 rfl ?_
    show V 68 [some (ZR 0), some (ZI p), some (ZI (σ 40 p)), some (ZI (σ 40 (p + 1)))] [ZI 0] 41 σ
    exact zr_zret (pc := 68) hV dX12_isSo_68 rfl rfl (by omega) ⟨rfl, _, rfl, ⟨by decide, by decide⟩, (by omega)⟩
  · show V 28 [some (ZR 0), some (ZI p), some (ZI (σ 40 p)), some (ZI (σ 40 (p + 1)))] [] 41 σ
    refine zr_iload_n (pc := 28) hV dX12_isSo_28 rfl rfl ?_
    refine zr_i2l (pc := 29) hV dX12_isSo_29 (by omega) ?_
    refine zr_lconst (pc := 30) hV 0 dX12_isSo_30 (by decide) ?_
    refine zr_iconst (pc := 31) hV 1 dX12_isSo_31 rfl ?_
    refine zr_aload_n (pc := 32) hV dX12_isSo_32 rfl rfl ?_
    refine zr_getI (pc := 33) hV 1 dX12_isSo_33 fX12_13 rfl rfl rfl (by decide) ?_
    have t5 := zx_g1 hσ
    refine zr_ishl (pc := 36) hV dX12_isSo_36 ?_
    have t6 := zx_shl_one (y := σ 0 1) 3 8 (by decide) (by decide) (by omega)
    refine zr_iconst (pc := 37) hV 1 dX12_isSo_37 rfl ?_
    refine zr_isub (pc := 38) hV dX12_isSo_38 ?_
    refine zr_i2l (pc := 39) hV dX12_isSo_39 (by omega) ?_
    refine zr_callSp (pc := 40) hV [ZL (σ 40 (p + 1)), ZL 0, ZL ((zq_shl 1 (σ 0 1)) - 1)] (st := []) (c_X12_in (σ := σ) (σ 40 (p + 1)) 0 ((zq_shl 1 (σ 0 1)) - 1) (by omega) (by omega) (by omega)) dX12_isSo_40 mX12_170 (by decide) (Nat.le_of_ble_eq_true rfl) (Nat.le_refl _) (fun r40 hr40 pr40 => ?_)
    refine zr_if_eq (pc := 43) hV 67 dX12_isSo_43 (by decide) (by omega) (fun c7 => ?_) (fun c7 => ?_)
    · show V 67 [some (ZR 0), some (ZI p), some (ZI (σ 40 p)), some (ZI (σ 40 (p + 1)))] [] 41 σ
      refine zr_iconst (pc := 67) hV 0 dX12_isSo_67 rfl ?_
      show V 68 [some (ZR 0), some (ZI p), some (ZI (σ 40 p)), some (ZI (σ 40 (p + 1)))] [ZI 0] 41 σ
      exact zr_zret (pc := 68) hV dX12_isSo_68 rfl rfl (by omega) ⟨rfl, _, rfl, ⟨by decide, by decide⟩, (by omega)⟩
    · show V 46 [some (ZR 0), some (ZI p), some (ZI (σ 40 p)), some (ZI (σ 40 (p + 1)))] [] 41 σ
      refine zr_aload_n (pc := 46) hV dX12_isSo_46 rfl rfl ?_
      refine zr_getR (pc := 47) hV 64 40 dX12_isSo_47 fX12_144 rfl rfl rfl (by decide) (zx_g64 hσ) (by omega) ?_
      refine zr_iload_n (pc := 50) hV dX12_isSo_50 rfl rfl ?_
      refine zr_iconst (pc := 51) hV 2 dX12_isSo_51 rfl ?_
      refine zr_iadd (pc := 52) hV dX12_isSo_52 ?_
      refine zr_iald (pc := 53) hV dX12_isSo_53 rfl (by decide) rfl (by omega) ?_
      have t8 := zx_ga40 hσ (p + 2)
      refine zr_aload_n (pc := 54) hV dX12_isSo_54 rfl rfl ?_
      refine zr_getR (pc := 55) hV 24 15 dX12_isSo_55 fX12_62 rfl rfl rfl (by decide) (zx_g24 hσ) (by omega) ?_
      refine zr_iload_n (pc := 58) hV dX12_isSo_58 rfl rfl ?_
      refine zr_iald (pc := 59) hV dX12_isSo_59 rfl (by decide) rfl (by omega) ?_
      have t9 := zx_stW hσ (σ 40 (p + 1)) (by omega)
      refine zr_icmp_ne (pc := 60) hV 67 dX12_isSo_60 (by decide) (by omega) (by omega) (fun c10 => ?_) (fun c10 => ?_)
      · show V 67 [some (ZR 0), some (ZI p), some (ZI (σ 40 p)), some (ZI (σ 40 (p + 1)))] [] 41 σ
        refine zr_iconst (pc := 67) hV 0 dX12_isSo_67 rfl ?_
        show V 68 [some (ZR 0), some (ZI p), some (ZI (σ 40 p)), some (ZI (σ 40 (p + 1)))] [ZI 0] 41 σ
        exact zr_zret (pc := 68) hV dX12_isSo_68 rfl rfl (by omega) ⟨rfl, _, rfl, ⟨by decide, by decide⟩, (by omega)⟩
      · show V 63 [some (ZR 0), some (ZI p), some (ZI (σ 40 p)), some (ZI (σ 40 (p + 1)))] [] 41 σ
        refine zr_iconst (pc := 63) hV 1 dX12_isSo_63 rfl ?_
        refine zr_goto (pc := 64) hV 68 dX12_isSo_64 (by decide) ?_
        show V 68 [some (ZR 0), some (ZI p), some (ZI (σ 40 p)), some (ZI (σ 40 (p + 1)))] [ZI 1] 41 σ
        exact zr_zret (pc := 68) hV dX12_isSo_68 rfl rfl (by omega) ⟨rfl, _, rfl, ⟨by decide, by decide⟩, (by omega)⟩
