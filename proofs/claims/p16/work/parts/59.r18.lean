set_option maxHeartbeats 800000 in
theorem c_X12_restart2 {σ : zq_S} (hσ : zx_T σ)  : zq_C zx_w yX12_restart cX12_restart 2 (none) 1 21 41 41 [ZR 0] σ (zq_pv (fun τ => zx_T τ ∧ (∀ a i : Int, (¬ (a = 0 ∧ i = 18) ∧ ¬ (a = 0 ∧ i = 26) ∧ ¬ (a = 0 ∧ i = 29) ∧ ¬ (a = 0 ∧ i = 3) ∧ ¬ (a = 0 ∧ i = 30) ∧ ¬ (a = 0 ∧ i = 35) ∧ ¬ (a = 0 ∧ i = 36) ∧ a ≠ 14 ∧ a ≠ 15) → τ a i = σ a i) ∧ (zx_M τ ∧ zx_O τ ∧ zx_K τ ∧ τ 0 36 = 0 ∧ τ 0 3 = 0))) := by
  refine zq_C_of (by decide) (Nat.le_refl _) (Nat.le_of_ble_eq_true rfl) [some (ZR 0), none] rfl (fun V hV => ?_)
  show V 0 [some (ZR 0), none] [] 41 σ
  refine zr_aload_n (pc := 0) hV dX12_restart_0 rfl rfl ?_
  refine zr_iconst (pc := 1) hV 0 dX12_restart_1 rfl ?_
  refine zr_putI (pc := 2) hV 3 dX12_restart_2 fX12_150 rfl rfl rfl rfl (by decide) (fun σ2 eσ2 => ?_)
  have hσ2 : zx_T σ2 := zx_u3 eσ2 hσ (by omega)
  have hFσ2 : ∀ a i : Int, (¬ (a = 0 ∧ i = 18) ∧ ¬ (a = 0 ∧ i = 26) ∧ ¬ (a = 0 ∧ i = 29) ∧ ¬ (a = 0 ∧ i = 3) ∧ ¬ (a = 0 ∧ i = 30) ∧ ¬ (a = 0 ∧ i = 35) ∧ ¬ (a = 0 ∧ i = 36) ∧ a ≠ 14 ∧ a ≠ 15) → σ2 a i = σ a i := fun a i h => by rw [eσ2, zq_up_ne h.2.2.2.1]
  refine zr_aload_n (pc := 5) hV dX12_restart_5 rfl rfl ?_
  refine zr_iconst (pc := 6) hV 0 dX12_restart_6 rfl ?_
  refine zr_putZ (pc := 7) hV 30 dX12_restart_7 fX12_153 rfl rfl rfl (by omega) rfl (by decide) (fun σ7 eσ7 => ?_)
  have hσ7 : zx_T σ7 := zx_u30 eσ7 hσ2 (by omega)
  have hFσ7 : ∀ a i : Int, (¬ (a = 0 ∧ i = 18) ∧ ¬ (a = 0 ∧ i = 26) ∧ ¬ (a = 0 ∧ i = 29) ∧ ¬ (a = 0 ∧ i = 3) ∧ ¬ (a = 0 ∧ i = 30) ∧ ¬ (a = 0 ∧ i = 35) ∧ ¬ (a = 0 ∧ i = 36) ∧ a ≠ 14 ∧ a ≠ 15) → σ7 a i = σ a i := fun a i h => by rw [eσ7, zq_up_ne h.2.2.2.2.1]; exact hFσ2 a i h
  refine zr_aload_n (pc := 10) hV dX12_restart_10 rfl rfl ?_
  refine zr_bipush (pc := 11) hV (-4) dX12_restart_11 (by decide) ?_
  refine zr_putI (pc := 13) hV 18 dX12_restart_13 fX12_157 rfl rfl rfl rfl (by decide) (fun σ13 eσ13 => ?_)
  have hσ13 : zx_T σ13 := zx_u18 eσ13 hσ7 (by omega)
  have hFσ13 : ∀ a i : Int, (¬ (a = 0 ∧ i = 18) ∧ ¬ (a = 0 ∧ i = 26) ∧ ¬ (a = 0 ∧ i = 29) ∧ ¬ (a = 0 ∧ i = 3) ∧ ¬ (a = 0 ∧ i = 30) ∧ ¬ (a = 0 ∧ i = 35) ∧ ¬ (a = 0 ∧ i = 36) ∧ a ≠ 14 ∧ a ≠ 15) → σ13 a i = σ a i := fun a i h => by rw [eσ13, zq_up_ne h.1]; exact hFσ7 a i h
  refine zr_aload_n (pc := 16) hV dX12_restart_16 rfl rfl ?_
  refine zr_iconst (pc := 17) hV 1 dX12_restart_17 rfl ?_
  refine zr_putI (pc := 18) hV 35 dX12_restart_18 fX12_84 rfl rfl rfl rfl (by decide) (fun σ18 eσ18 => ?_)
  have hσ18 : zx_T σ18 := zx_u35 eσ18 hσ13 (by omega)
  have hFσ18 : ∀ a i : Int, (¬ (a = 0 ∧ i = 18) ∧ ¬ (a = 0 ∧ i = 26) ∧ ¬ (a = 0 ∧ i = 29) ∧ ¬ (a = 0 ∧ i = 3) ∧ ¬ (a = 0 ∧ i = 30) ∧ ¬ (a = 0 ∧ i = 35) ∧ ¬ (a = 0 ∧ i = 36) ∧ a ≠ 14 ∧ a ≠ 15) → σ18 a i = σ a i := fun a i h => by rw [eσ18, zq_up_ne h.2.2.2.2.2.1]; exact hFσ13 a i h
  refine zr_aload_n (pc := 21) hV dX12_restart_21 rfl rfl ?_
  refine zr_iconst (pc := 22) hV 0 dX12_restart_22 rfl ?_
  refine zr_putZ (pc := 23) hV 36 dX12_restart_23 fX12_160 rfl rfl rfl (by omega) rfl (by decide) (fun σ23 eσ23 => ?_)
  have hσ23 : zx_T σ23 := zx_u36 eσ23 hσ18 (by omega)
  have hFσ23 : ∀ a i : Int, (¬ (a = 0 ∧ i = 18) ∧ ¬ (a = 0 ∧ i = 26) ∧ ¬ (a = 0 ∧ i = 29) ∧ ¬ (a = 0 ∧ i = 3) ∧ ¬ (a = 0 ∧ i = 30) ∧ ¬ (a = 0 ∧ i = 35) ∧ ¬ (a = 0 ∧ i = 36) ∧ a ≠ 14 ∧ a ≠ 15) → σ23 a i = σ a i := fun a i h => by rw [eσ23, zq_up_ne h.2.2.2.2.2.2.1]; exact hFσ18 a i h
  refine zr_aload_n (pc := 26) hV dX12_restart_26 rfl rfl ?_
  refine zr_iconst (pc := 27) hV 2 dX12_restart_27 rfl ?_
  refine zr_putI (pc := 28) hV 29 dX12_restart_28 fX12_72 rfl rfl rfl rfl (by decide) (fun σ28 eσ28 => ?_)
  have hσ28 : zx_T σ28 := zx_u29 eσ28 hσ23 (by omega)
  have hFσ28 : ∀ a i : Int, (¬ (a = 0 ∧ i = 18) ∧ ¬ (a = 0 ∧ i = 26) ∧ ¬ (a = 0 ∧ i = 29) ∧ ¬ (a = 0 ∧ i = 3) ∧ ¬ (a = 0 ∧ i = 30) ∧ ¬ (a = 0 ∧ i = 35) ∧ ¬ (a = 0 ∧ i = 36) ∧ a ≠ 14 ∧ a ≠ 15) → σ28 a i = σ a i := fun a i h => by rw [eσ28, zq_up_ne h.2.2.1]; exact hFσ23 a i h
  refine zr_iconst (pc := 31) hV 0 dX12_restart_31 rfl ?_
  refine zr_istore_n (pc := 32) hV [some (ZR 0), some (ZI 0)] dX12_restart_32 rfl (by decide) rfl rfl ?_
  have L33 : ∀ (fuel : Nat) (x1_33 : Int) (σ_33 : zq_S), (0 ≤ x1_33 ∧ x1_33 ≤ 64) → (zx_T σ_33) → (∀ a i : Int, (¬ (a = 0 ∧ i = 18) ∧ ¬ (a = 0 ∧ i = 26) ∧ ¬ (a = 0 ∧ i = 29) ∧ ¬ (a = 0 ∧ i = 3) ∧ ¬ (a = 0 ∧ i = 30) ∧ ¬ (a = 0 ∧ i = 35) ∧ ¬ (a = 0 ∧ i = 36) ∧ a ≠ 14 ∧ a ≠ 15) → σ_33 a i = σ a i) → (∀ p, 0 ≤ p → p < x1_33 → σ_33 14 p = 0) → (σ_33 0 3 = 0) → (σ_33 0 30 = 0) → (σ_33 0 36 = 0) → 64 - x1_33 < (fuel : Int) → V 33 [some (ZR 0), some (ZI x1_33)] [] 41 σ_33 := by
    intro fuel
    induction fuel with
    | zero =>
      intro x1_33 σ_33 hx1_33 hσ_33 hFσ_33 hi33_0 hi33_1 hi33_2 hi33_3 hm33
      exfalso; omega
    | succ fuel ih =>
      intro x1_33 σ_33 hx1_33 hσ_33 hFσ_33 hi33_0 hi33_1 hi33_2 hi33_3 hm33
      have ih33 := ih
      show V 33 [some (ZR 0), some (ZI x1_33)] [] 41 σ_33
      refine zr_iload_n (pc := 33) hV dX12_restart_33 rfl rfl ?_
      refine zr_bipush (pc := 34) hV 64 dX12_restart_34 (by decide) ?_
      refine zr_icmp_ge (pc := 36) hV 52 dX12_restart_36 (by decide) (by omega) ⟨by decide, by decide⟩ (fun c1 => ?_) (fun c1 => ?_)
      · show V 52 [some (ZR 0), some (ZI x1_33)] [] 41 σ_33
        refine zr_aload_n (pc := 52) hV dX12_restart_52 rfl rfl ?_
        refine zr_callVv (pc := 53) hV [] (st := []) (c_X12_clearStepper (σ := σ_33) hσ_33 ) dX12_restart_53 mX12_163 rfl (by decide) (by decide) (Nat.le_of_ble_eq_true rfl) (Nat.le_refl _) (fun σ53 pσ53 => ?_)
        obtain ⟨hσ53, hfσ53, pσ53⟩ := pσ53
        have hFσ53 : ∀ a i : Int, (¬ (a = 0 ∧ i = 18) ∧ ¬ (a = 0 ∧ i = 26) ∧ ¬ (a = 0 ∧ i = 29) ∧ ¬ (a = 0 ∧ i = 3) ∧ ¬ (a = 0 ∧ i = 30) ∧ ¬ (a = 0 ∧ i = 35) ∧ ¬ (a = 0 ∧ i = 36) ∧ a ≠ 14 ∧ a ≠ 15) → σ53 a i = σ a i := fun a i h => (hfσ53 a i ⟨h.2.1, h.2.2.2.2.2.2.2.2⟩).trans (hFσ_33 a i h)
        have y3 := hfσ53 0 3 (by omega)
        have y30 := hfσ53 0 30 (by omega)
        have y36 := hfσ53 0 36 (by omega)
        have t2 := zx_g3 hσ53
        have t3 : σ53 0 3 = σ_33 0 3 := hfσ53 _ _ (by omega)
        have t4 := zx_g36 hσ53
        have t5 : σ53 0 36 = σ_33 0 36 := hfσ53 _ _ (by omega)
        exact zr_vret (pc := 56) hV dX12_restart_56 rfl rfl ⟨rfl, hσ53, hFσ53, ⟨zx_M_0 (by omega), fun o h1 h2 => absurd h2 (by omega), fun p h1 h2 => (by rw [hfσ53 14 p (by omega), hi33_0 p h1 (by omega)]; have := zx_p2_pos (σ53 0 2); omega), by omega, by omega⟩⟩
      · show V 39 [some (ZR 0), some (ZI x1_33)] [] 41 σ_33
        refine zr_aload_n (pc := 39) hV dX12_restart_39 rfl rfl ?_
        refine zr_getR (pc := 40) hV 23 14 dX12_restart_40 fX12_59 rfl rfl rfl (by decide) (zx_g23 hσ_33) (by omega) ?_
        refine zr_iload_n (pc := 43) hV dX12_restart_43 rfl rfl ?_
        refine zr_iconst (pc := 44) hV 0 dX12_restart_44 rfl ?_
        refine zr_iast (pc := 45) hV dX12_restart_45 rfl (by decide) rfl (by omega) (fun σ45 eσ45 => ?_)
        have hσ45 : zx_T σ45 := zx_ua14 eσ45 hσ_33 (by omega)
        have hFσ45 : ∀ a i : Int, (¬ (a = 0 ∧ i = 18) ∧ ¬ (a = 0 ∧ i = 26) ∧ ¬ (a = 0 ∧ i = 29) ∧ ¬ (a = 0 ∧ i = 3) ∧ ¬ (a = 0 ∧ i = 30) ∧ ¬ (a = 0 ∧ i = 35) ∧ ¬ (a = 0 ∧ i = 36) ∧ a ≠ 14 ∧ a ≠ 15) → σ45 a i = σ a i := fun a i h => by rw [eσ45, zq_up_ne (fun q => h.2.2.2.2.2.2.2.1 q.1)]; exact hFσ_33 a i h
        refine zr_iinc (pc := 46) hV [some (ZR 0), some (ZI (x1_33 + 1))] (x1_33 + 1) dX12_restart_46 rfl rfl (by decide) rfl rfl ?_
        refine zr_goto (pc := 49) hV 33 dX12_restart_49 (by decide) ?_
        have t6 := zx_g3 hσ45
        have t7 : σ45 0 3 = σ_33 0 3 := by rw [eσ45]; exact zq_up_ne (by omega)
        have t8 := zx_g30 hσ45
        have t9 : σ45 0 30 = σ_33 0 30 := by rw [eσ45]; exact zq_up_ne (by omega)
        have t10 := zx_g36 hσ45
        have t11 : σ45 0 36 = σ_33 0 36 := by rw [eσ45]; exact zq_up_ne (by omega)
        exact ih33 (x1_33 + 1) σ45 (by omega) hσ45 hFσ45 (fun p h1 h2 => if hc : p = x1_33 then (by rw [hc, eσ45, zq_up_same]) else (by rw [eσ45, zq_up_ne (by omega)]; exact hi33_0 p h1 (by omega))) (by omega) (by omega) (by omega) (by omega)
  have t12 := zx_g3 hσ28
  have t13 : σ28 0 3 = σ23 0 3 := by rw [eσ28]; exact zq_up_ne (by omega)
  have t14 : σ23 0 3 = σ18 0 3 := by rw [eσ23]; exact zq_up_ne (by omega)
  have t15 : σ18 0 3 = σ13 0 3 := by rw [eσ18]; exact zq_up_ne (by omega)
  have t16 : σ13 0 3 = σ7 0 3 := by rw [eσ13]; exact zq_up_ne (by omega)
  have t17 : σ7 0 3 = σ2 0 3 := by rw [eσ7]; exact zq_up_ne (by omega)
  have t18 : σ2 0 3 = 0 := by rw [eσ2]; exact zq_up_same _ _ _ _
  have t19 := zx_g30 hσ28
  have t20 : σ28 0 30 = σ23 0 30 := by rw [eσ28]; exact zq_up_ne (by omega)
  have t21 : σ23 0 30 = σ18 0 30 := by rw [eσ23]; exact zq_up_ne (by omega)
  have t22 : σ18 0 30 = σ13 0 30 := by rw [eσ18]; exact zq_up_ne (by omega)
  have t23 : σ13 0 30 = σ7 0 30 := by rw [eσ13]; exact zq_up_ne (by omega)
  have t24 : σ7 0 30 = 0 := by rw [eσ7]; exact zq_up_same _ _ _ _
  have t25 := zx_g36 hσ28
  have t26 : σ28 0 36 = σ23 0 36 := by rw [eσ28]; exact zq_up_ne (by omega)
  have t27 : σ23 0 36 = 0 := by rw [eσ23]; exact zq_up_same _ _ _ _
  exact L33 (64 - (0 : Int) + 1 : Int).toNat 0 σ28 (by omega) hσ28 hFσ28 (fun p h1 h2 => absurd h2 (by omega)) (by omega) (by omega) (by omega) (by omega)
set_option maxHeartbeats 800000 in
theorem c_X12_begin2 {σ : zq_S} (hσ : zx_T σ) (w0 k0 b0 : Int) (q0 : zq_in w0) (q1 : zq_in k0) (q2 : zq_in b0) (Mσ : zx_M σ) (Oσ : zx_O σ) (Kσ : zx_K σ) (Uσ : zx_U σ) (Tσ : zx_TK σ) : zq_C zx_w yX12_begin cX12_begin 4 (some .int) 2 42 41 41 [ZR 0, ZI w0, ZI k0, ZI b0] σ (zq_pi (fun r τ => zx_T τ ∧ (∀ a i : Int, (¬ (a = 0 ∧ i = 0) ∧ ¬ (a = 0 ∧ i = 1) ∧ ¬ (a = 0 ∧ i = 18) ∧ ¬ (a = 0 ∧ i = 2) ∧ ¬ (a = 0 ∧ i = 26) ∧ ¬ (a = 0 ∧ i = 29) ∧ ¬ (a = 0 ∧ i = 3) ∧ ¬ (a = 0 ∧ i = 30) ∧ ¬ (a = 0 ∧ i = 35) ∧ ¬ (a = 0 ∧ i = 36) ∧ a ≠ 14 ∧ a ≠ 15) → τ a i = σ a i) ∧ (True) ∧ zx_M τ ∧ zx_O τ ∧ zx_K τ ∧ zx_U τ ∧ zx_TK τ)) := by
  refine zq_C_of (by decide) (Nat.le_refl _) (Nat.le_of_ble_eq_true rfl) [some (ZR 0), some (ZI w0), some (ZI k0), some (ZI b0)] rfl (fun V hV => ?_)
  show V 0 [some (ZR 0), some (ZI w0), some (ZI k0), some (ZI b0)] [] 41 σ
  refine zr_iload_n (pc := 0) hV dX12_begin_0 rfl rfl ?_
  refine zr_i2l (pc := 1) hV dX12_begin_1 (by omega) ?_
  refine zr_ldc2 (pc := 2) (v := 2) hV 2 dX12_begin_2 kX12_166 (by decide) ?_
  refine zr_ldc2 (pc := 5) (v := 8) hV 8 dX12_begin_5 kX12_168 (by decide) ?_
  refine zr_callSp (pc := 8) hV [ZL w0, ZL 2, ZL 8] (st := []) (c_X12_in (σ := σ) w0 2 8 (by omega) (by omega) (by omega)) dX12_begin_8 mX12_170 (by decide) (Nat.le_of_ble_eq_true rfl) (Nat.le_refl _) (fun r8 hr8 pr8 => ?_)
  refine zr_if_eq (pc := 11) hV 40 dX12_begin_11 (by decide) (by omega) (fun c1 => ?_) (fun c1 => ?_)
  · show V 40 [some (ZR 0), some (ZI w0), some (ZI k0), some (ZI b0)] [] 41 σ
    refine zr_iconst (pc := 40) hV (-1) dX12_begin_40 rfl ?_
    exact zr_iret (pc := 41) hV dX12_begin_41 rfl rfl ⟨_, rfl, ⟨by decide, by decide⟩, hσ, (fun a i _ => rfl), trivial, Mσ, Oσ, Kσ, Uσ, Tσ⟩
  · show V 14 [some (ZR 0), some (ZI w0), some (ZI k0), some (ZI b0)] [] 41 σ
    refine zr_iload_n (pc := 14) hV dX12_begin_14 rfl rfl ?_
    refine zr_i2l (pc := 15) hV dX12_begin_15 (by omega) ?_
    refine zr_lconst (pc := 16) hV 1 dX12_begin_16 (by decide) ?_
    refine zr_ldc2 (pc := 17) (v := 3) hV 3 dX12_begin_17 kX12_174 (by decide) ?_
    refine zr_callSp (pc := 20) hV [ZL k0, ZL 1, ZL 3] (st := []) (c_X12_in (σ := σ) k0 1 3 (by omega) (by omega) (by omega)) dX12_begin_20 mX12_170 (by decide) (Nat.le_of_ble_eq_true rfl) (Nat.le_refl _) (fun r20 hr20 pr20 => ?_)
    refine zr_if_eq (pc := 23) hV 40 dX12_begin_23 (by decide) (by omega) (fun c2 => ?_) (fun c2 => ?_)
    · show V 40 [some (ZR 0), some (ZI w0), some (ZI k0), some (ZI b0)] [] 41 σ
      refine zr_iconst (pc := 40) hV (-1) dX12_begin_40 rfl ?_
      exact zr_iret (pc := 41) hV dX12_begin_41 rfl rfl ⟨_, rfl, ⟨by decide, by decide⟩, hσ, (fun a i _ => rfl), trivial, Mσ, Oσ, Kσ, Uσ, Tσ⟩
    · show V 26 [some (ZR 0), some (ZI w0), some (ZI k0), some (ZI b0)] [] 41 σ
      refine zr_iload_n (pc := 26) hV dX12_begin_26 rfl rfl ?_
      refine zr_i2l (pc := 27) hV dX12_begin_27 (by omega) ?_
      refine zr_ldc2 (pc := 28) (v := 6) hV 6 dX12_begin_28 kX12_176 (by decide) ?_
      refine zr_ldc2 (pc := 31) (v := 12) hV 12 dX12_begin_31 kX12_178 (by decide) ?_
      refine zr_callSp (pc := 34) hV [ZL b0, ZL 6, ZL 12] (st := []) (c_X12_in (σ := σ) b0 6 12 (by omega) (by omega) (by omega)) dX12_begin_34 mX12_170 (by decide) (Nat.le_of_ble_eq_true rfl) (Nat.le_refl _) (fun r34 hr34 pr34 => ?_)
      refine zr_if_ne (pc := 37) hV 42 dX12_begin_37 (by decide) (by omega) (fun c3 => ?_) (fun c3 => ?_)
      · show V 42 [some (ZR 0), some (ZI w0), some (ZI k0), some (ZI b0)] [] 41 σ
        refine zr_aload_n (pc := 42) hV dX12_begin_42 rfl rfl ?_
        refine zr_iload_n (pc := 43) hV dX12_begin_43 rfl rfl ?_
        refine zr_putI (pc := 44) hV 0 dX12_begin_44 fX12_7 rfl rfl rfl rfl (by decide) (fun σ44 eσ44 => ?_)
        have hσ44 : zx_T σ44 := zx_u0 eσ44 hσ (by omega)
        have hFσ44 : ∀ a i : Int, (¬ (a = 0 ∧ i = 0) ∧ ¬ (a = 0 ∧ i = 1) ∧ ¬ (a = 0 ∧ i = 18) ∧ ¬ (a = 0 ∧ i = 2) ∧ ¬ (a = 0 ∧ i = 26) ∧ ¬ (a = 0 ∧ i = 29) ∧ ¬ (a = 0 ∧ i = 3) ∧ ¬ (a = 0 ∧ i = 30) ∧ ¬ (a = 0 ∧ i = 35) ∧ ¬ (a = 0 ∧ i = 36) ∧ a ≠ 14 ∧ a ≠ 15) → σ44 a i = σ a i := fun a i h => by rw [eσ44, zq_up_ne h.1]
        have Mσ44 : zx_M σ44 := zx_M_fr (fun i => by rw [eσ44]; exact zq_up_ne (by omega)) (by rw [eσ44]; exact zq_up_ne (by omega)) (by rw [eσ44]; exact zq_up_ne (by omega)) (by rw [eσ44]; exact zq_up_ne (by omega)) Mσ
        have Oσ44 : zx_O σ44 := zx_O_fr (fun i => by rw [eσ44]; exact zq_up_ne (by omega)) (fun i => by rw [eσ44]; exact zq_up_ne (by omega)) (fun i => by rw [eσ44]; exact zq_up_ne (by omega)) (by rw [eσ44]; exact zq_up_ne (by omega)) (by rw [eσ44]; exact zq_up_ne (by omega)) Oσ
        have Kσ44 : zx_K σ44 := zx_K_fr (fun i => by rw [eσ44]; exact zq_up_ne (by omega)) (by rw [eσ44]; exact zq_up_ne (by omega)) Kσ
        have Uσ44 : zx_U σ44 := zx_U_fr (by rw [eσ44]; exact zq_up_ne (by omega)) (by rw [eσ44]; exact zq_up_ne (by omega)) (fun i => by rw [eσ44]; exact zq_up_ne (by omega)) (fun i => by rw [eσ44]; exact zq_up_ne (by omega)) (fun i => by rw [eσ44]; exact zq_up_ne (by omega)) Uσ
        have Tσ44 : zx_TK σ44 := zx_TK_fr (fun i => by rw [eσ44]; exact zq_up_ne (by omega)) (by rw [eσ44]; exact zq_up_ne (by omega)) Tσ
        refine zr_aload_n (pc := 47) hV dX12_begin_47 rfl rfl ?_
        refine zr_iload_n (pc := 48) hV dX12_begin_48 rfl rfl ?_
        refine zr_putI (pc := 49) hV 1 dX12_begin_49 fX12_13 rfl rfl rfl rfl (by decide) (fun σ49 eσ49 => ?_)
        have hσ49 : zx_T σ49 := zx_u1 eσ49 hσ44 (by omega)
        have hFσ49 : ∀ a i : Int, (¬ (a = 0 ∧ i = 0) ∧ ¬ (a = 0 ∧ i = 1) ∧ ¬ (a = 0 ∧ i = 18) ∧ ¬ (a = 0 ∧ i = 2) ∧ ¬ (a = 0 ∧ i = 26) ∧ ¬ (a = 0 ∧ i = 29) ∧ ¬ (a = 0 ∧ i = 3) ∧ ¬ (a = 0 ∧ i = 30) ∧ ¬ (a = 0 ∧ i = 35) ∧ ¬ (a = 0 ∧ i = 36) ∧ a ≠ 14 ∧ a ≠ 15) → σ49 a i = σ a i := fun a i h => by rw [eσ49, zq_up_ne h.2.1]; exact hFσ44 a i h
        have Mσ49 : zx_M σ49 := zx_M_fr (fun i => by rw [eσ49]; exact zq_up_ne (by omega)) (by rw [eσ49]; exact zq_up_ne (by omega)) (by rw [eσ49]; exact zq_up_ne (by omega)) (by rw [eσ49]; exact zq_up_ne (by omega)) Mσ44
        have Oσ49 : zx_O σ49 := zx_O_fr (fun i => by rw [eσ49]; exact zq_up_ne (by omega)) (fun i => by rw [eσ49]; exact zq_up_ne (by omega)) (fun i => by rw [eσ49]; exact zq_up_ne (by omega)) (by rw [eσ49]; exact zq_up_ne (by omega)) (by rw [eσ49]; exact zq_up_ne (by omega)) Oσ44
        have Kσ49 : zx_K σ49 := zx_K_fr (fun i => by rw [eσ49]; exact zq_up_ne (by omega)) (by rw [eσ49]; exact zq_up_ne (by omega)) Kσ44
        have Uσ49 : zx_U σ49 := zx_U_fr (by rw [eσ49]; exact zq_up_ne (by omega)) (by rw [eσ49]; exact zq_up_ne (by omega)) (fun i => by rw [eσ49]; exact zq_up_ne (by omega)) (fun i => by rw [eσ49]; exact zq_up_ne (by omega)) (fun i => by rw [eσ49]; exact zq_up_ne (by omega)) Uσ44
        have Tσ49 : zx_TK σ49 := zx_TK_fr (fun i => by rw [eσ49]; exact zq_up_ne (by omega)) (by rw [eσ49]; exact zq_up_ne (by omega)) Tσ44
        refine zr_aload_n (pc := 52) hV dX12_begin_52 rfl rfl ?_
        refine zr_iload_n (pc := 53) hV dX12_begin_53 rfl rfl ?_
        refine zr_putI (pc := 54) hV 2 dX12_begin_54 fX12_16 rfl rfl rfl rfl (by decide) (fun σ54 eσ54 => ?_)
        have hσ54 : zx_T σ54 := zx_u2 eσ54 hσ49 (by omega)
        have hFσ54 : ∀ a i : Int, (¬ (a = 0 ∧ i = 0) ∧ ¬ (a = 0 ∧ i = 1) ∧ ¬ (a = 0 ∧ i = 18) ∧ ¬ (a = 0 ∧ i = 2) ∧ ¬ (a = 0 ∧ i = 26) ∧ ¬ (a = 0 ∧ i = 29) ∧ ¬ (a = 0 ∧ i = 3) ∧ ¬ (a = 0 ∧ i = 30) ∧ ¬ (a = 0 ∧ i = 35) ∧ ¬ (a = 0 ∧ i = 36) ∧ a ≠ 14 ∧ a ≠ 15) → σ54 a i = σ a i := fun a i h => by rw [eσ54, zq_up_ne h.2.2.2.1]; exact hFσ49 a i h
        have Uσ54 : zx_U σ54 := zx_U_fr (by rw [eσ54]; exact zq_up_ne (by omega)) (by rw [eσ54]; exact zq_up_ne (by omega)) (fun i => by rw [eσ54]; exact zq_up_ne (by omega)) (fun i => by rw [eσ54]; exact zq_up_ne (by omega)) (fun i => by rw [eσ54]; exact zq_up_ne (by omega)) Uσ49
        have Tσ54 : zx_TK σ54 := zx_TK_fr (fun i => by rw [eσ54]; exact zq_up_ne (by omega)) (by rw [eσ54]; exact zq_up_ne (by omega)) Tσ49
        refine zr_aload_n (pc := 57) hV dX12_begin_57 rfl rfl ?_
        refine zr_callVv (pc := 58) hV [] (st := []) (c_X12_restart2 (σ := σ54) hσ54 ) dX12_begin_58 mX12_147 rfl (by decide) (by decide) (Nat.le_of_ble_eq_true rfl) (Nat.le_refl _) (fun σ58 pσ58 => ?_)
        obtain ⟨hσ58, hfσ58, pσ58⟩ := pσ58
        have Mσ58 : zx_M σ58 := pσ58.1
        have Oσ58 : zx_O σ58 := pσ58.2.1
        have Kσ58 : zx_K σ58 := pσ58.2.2.1
        have Uσ58 : zx_U σ58 := zx_U_0 pσ58.2.2.2.1
        have Tσ58 : zx_TK σ58 := zx_TK_0 pσ58.2.2.2.2
        have hFσ58 : ∀ a i : Int, (¬ (a = 0 ∧ i = 0) ∧ ¬ (a = 0 ∧ i = 1) ∧ ¬ (a = 0 ∧ i = 18) ∧ ¬ (a = 0 ∧ i = 2) ∧ ¬ (a = 0 ∧ i = 26) ∧ ¬ (a = 0 ∧ i = 29) ∧ ¬ (a = 0 ∧ i = 3) ∧ ¬ (a = 0 ∧ i = 30) ∧ ¬ (a = 0 ∧ i = 35) ∧ ¬ (a = 0 ∧ i = 36) ∧ a ≠ 14 ∧ a ≠ 15) → σ58 a i = σ a i := fun a i h => (hfσ58 a i ⟨h.2.2.1, h.2.2.2.2.1, h.2.2.2.2.2.1, h.2.2.2.2.2.2.1, h.2.2.2.2.2.2.2.1, h.2.2.2.2.2.2.2.2.1, h.2.2.2.2.2.2.2.2.2.1, h.2.2.2.2.2.2.2.2.2.2.1, h.2.2.2.2.2.2.2.2.2.2.2⟩).trans (hFσ54 a i h)
        have t4 := zx_g3 hσ58
        have t5 := zx_g36 hσ58
        refine zr_iconst (pc := 61) hV 1 dX12_begin_61 rfl ?_
        exact zr_iret (pc := 62) hV dX12_begin_62 rfl rfl ⟨_, rfl, ⟨by decide, by decide⟩, hσ58, hFσ58, trivial, Mσ58, Oσ58, Kσ58, Uσ58, Tσ58⟩
      · show V 40 [some (ZR 0), some (ZI w0), some (ZI k0), some (ZI b0)] [] 41 σ
        refine zr_iconst (pc := 40) hV (-1) dX12_begin_40 rfl ?_
        exact zr_iret (pc := 41) hV dX12_begin_41 rfl rfl ⟨_, rfl, ⟨by decide, by decide⟩, hσ, (fun a i _ => rfl), trivial, Mσ, Oσ, Kσ, Uσ, Tσ⟩
set_option maxHeartbeats 800000 in
theorem c_X12_unorder2 {σ : zq_S} (hσ : zx_T σ)  (Mσ : zx_M σ) (Oσ : zx_O σ) (Tσ : zx_TK σ) : zq_C zx_w yX12_unorder cX12_unorder 1 (some .int) 0 0 41 41 [ZR 0] σ (zq_pi (fun r τ => zx_T τ ∧ (∀ a i : Int, (¬ (a = 0 ∧ i = 3) ∧ ¬ (a = 0 ∧ i = 30)) → τ a i = σ a i) ∧ (True) ∧ zx_M τ ∧ zx_O τ ∧ zx_TK τ)) := by
  refine zq_C_of (by decide) (Nat.le_refl _) (Nat.le_of_ble_eq_true rfl) [some (ZR 0)] rfl (fun V hV => ?_)
  show V 0 [some (ZR 0)] [] 41 σ
  refine zr_aload_n (pc := 0) hV dX12_unorder_0 rfl rfl ?_
  refine zr_getI (pc := 1) hV 3 dX12_unorder_1 fX12_150 rfl rfl rfl (by decide) ?_
  have t1 := zx_g3 hσ
  refine zr_if_ne (pc := 4) hV 10 dX12_unorder_4 (by decide) (by omega) (fun c2 => ?_) (fun c2 => ?_)
  · show V 10 [some (ZR 0)] [] 41 σ
    refine zr_aload_n (pc := 10) hV dX12_unorder_10 rfl rfl ?_
    refine zr_dup (pc := 11) hV dX12_unorder_11 (fun _ => rfl) ?_
    refine zr_getI (pc := 12) hV 3 dX12_unorder_12 fX12_150 rfl rfl rfl (by decide) ?_
    have t3 := zx_g3 hσ
    refine zr_iconst (pc := 15) hV 1 dX12_unorder_15 rfl ?_
    refine zr_isub (pc := 16) hV dX12_unorder_16 ?_
    refine zr_putI (pc := 17) hV 3 dX12_unorder_17 fX12_150 rfl rfl rfl rfl (by decide) (fun σ17 eσ17 => ?_)
    have hσ17 : zx_T σ17 := zx_u3 eσ17 hσ (by omega)
    have hFσ17 : ∀ a i : Int, (¬ (a = 0 ∧ i = 3) ∧ ¬ (a = 0 ∧ i = 30)) → σ17 a i = σ a i := fun a i h => by rw [eσ17, zq_up_ne h.1]
    have Oσ17 : zx_O σ17 := zx_O_le Oσ eσ17 (by omega)
    have Tσ17 : zx_TK σ17 := zx_TK_le Tσ eσ17 (by omega)
    refine zr_aload_n (pc := 20) hV dX12_unorder_20 rfl rfl ?_
    refine zr_iconst (pc := 21) hV 0 dX12_unorder_21 rfl ?_
    refine zr_putZ (pc := 22) hV 30 dX12_unorder_22 fX12_153 rfl rfl rfl (by omega) rfl (by decide) (fun σ22 eσ22 => ?_)
    have hσ22 : zx_T σ22 := zx_u30 eσ22 hσ17 (by omega)
    have hFσ22 : ∀ a i : Int, (¬ (a = 0 ∧ i = 3) ∧ ¬ (a = 0 ∧ i = 30)) → σ22 a i = σ a i := fun a i h => by rw [eσ22, zq_up_ne h.2]; exact hFσ17 a i h
    have Mσ22 : zx_M σ22 := zx_M_0 (by rw [eσ22, zq_up_same])
    have Oσ22 : zx_O σ22 := zx_O_fr (fun i => by rw [eσ22]; exact zq_up_ne (by omega)) (fun i => by rw [eσ22]; exact zq_up_ne (by omega)) (fun i => by rw [eσ22]; exact zq_up_ne (by omega)) (by rw [eσ22]; exact zq_up_ne (by omega)) (by rw [eσ22]; exact zq_up_ne (by omega)) Oσ17
    have Tσ22 : zx_TK σ22 := zx_TK_fr (fun i => by rw [eσ22]; exact zq_up_ne (by omega)) (by rw [eσ22]; exact zq_up_ne (by omega)) Tσ17
    refine zr_aload_n (pc := 25) hV dX12_unorder_25 rfl rfl ?_
    refine zr_getI (pc := 26) hV 3 dX12_unorder_26 fX12_150 rfl rfl rfl (by decide) ?_
    have t4 := zx_g3 hσ22
    have t5 : σ22 0 3 = σ17 0 3 := by rw [eσ22]; exact zq_up_ne (by omega)
    have t6 : σ17 0 3 = (σ 0 3) - 1 := by rw [eσ17]; exact zq_up_same _ _ _ _
    exact zr_iret (pc := 29) hV dX12_unorder_29 rfl rfl ⟨_, rfl, (by omega), hσ22, hFσ22, trivial, Mσ22, Oσ22, Tσ22⟩
  · show V 7 [some (ZR 0)] [] 41 σ
    refine zr_bipush (pc := 7) hV (-2) dX12_unorder_7 (by decide) ?_
    exact zr_iret (pc := 9) hV dX12_unorder_9 rfl rfl ⟨_, rfl, ⟨by decide, by decide⟩, hσ, (fun a i _ => rfl), trivial, Mσ, Oσ, Tσ⟩
set_option maxHeartbeats 800000 in
theorem c_X12_addOrder2 {σ : zq_S} (hσ : zx_T σ) (q0 : zx_A σ (σ 0 3)) (q1 : zx_B σ (σ 0 3)) (q2 : 1 ≤ σ 7 (σ 0 3)) (Mσ : zx_M σ) (Oσ : zx_O σ) (Tσ : zx_TK σ) : zq_C zx_w yX12_addOrder cX12_addOrder 1 (some .int) 0 0 41 41 [ZR 0] σ (zq_pi (fun r τ => zx_T τ ∧ (∀ a i : Int, (¬ (a = 0 ∧ i = 3) ∧ ¬ (a = 0 ∧ i = 30) ∧ a ≠ 8 ∧ a ≠ 9) → τ a i = σ a i) ∧ (True) ∧ zx_M τ ∧ zx_O τ ∧ zx_TK τ)) := by
  refine zq_C_of (by decide) (Nat.le_refl _) (Nat.le_of_ble_eq_true rfl) [some (ZR 0)] rfl (fun V hV => ?_)
  show V 0 [some (ZR 0)] [] 41 σ
  refine zr_aload_n (pc := 0) hV dX12_addOrder_0 rfl rfl ?_
  refine zr_getI (pc := 1) hV 3 dX12_addOrder_1 fX12_150 rfl rfl rfl (by decide) ?_
  have t1 := zx_g3 hσ
  refine zr_bipush (pc := 4) hV 20 dX12_addOrder_4 (by decide) ?_
  refine zr_icmp_ne (pc := 6) hV 12 dX12_addOrder_6 (by decide) (by omega) ⟨by decide, by decide⟩ (fun c2 => ?_) (fun c2 => ?_)
  · show V 12 [some (ZR 0)] [] 41 σ
    refine zr_aload_n (pc := 12) hV dX12_addOrder_12 rfl rfl ?_
    refine zr_getR (pc := 13) hV 11 8 dX12_addOrder_13 fX12_41 rfl rfl rfl (by decide) (zx_g11 hσ) (by omega) ?_
    refine zr_aload_n (pc := 16) hV dX12_addOrder_16 rfl rfl ?_
    refine zr_getI (pc := 17) hV 3 dX12_addOrder_17 fX12_150 rfl rfl rfl (by decide) ?_
    have t3 := zx_g3 hσ
    refine zr_iconst (pc := 20) hV (-1) dX12_addOrder_20 rfl ?_
    refine zr_iast (pc := 21) hV dX12_addOrder_21 rfl (by decide) rfl (by omega) (fun σ21 eσ21 => ?_)
    have hσ21 : zx_T σ21 := zx_ua8 eσ21 hσ (by omega)
    have hFσ21 : ∀ a i : Int, (¬ (a = 0 ∧ i = 3) ∧ ¬ (a = 0 ∧ i = 30) ∧ a ≠ 8 ∧ a ≠ 9) → σ21 a i = σ a i := fun a i h => by rw [eσ21, zq_up_ne (fun q => h.2.2.1 q.1)]
    have Mσ21 : zx_M σ21 := zx_M_fr (fun i => by rw [eσ21]; exact zq_up_ne (by omega)) (by rw [eσ21]; exact zq_up_ne (by omega)) (by rw [eσ21]; exact zq_up_ne (by omega)) (by rw [eσ21]; exact zq_up_ne (by omega)) Mσ
    have Oσ21 : zx_O σ21 := zx_O_fr (fun i => by rw [eσ21]; exact zq_up_ne (by omega)) (fun i => by rw [eσ21]; exact zq_up_ne (by omega)) (fun i => by rw [eσ21]; exact zq_up_ne (by omega)) (by rw [eσ21]; exact zq_up_ne (by omega)) (by rw [eσ21]; exact zq_up_ne (by omega)) Oσ
    have Tσ21 : zx_TK σ21 := zx_TK_fr (fun i => by rw [eσ21]; exact zq_up_ne (by omega)) (by rw [eσ21]; exact zq_up_ne (by omega)) Tσ
    refine zr_aload_n (pc := 22) hV dX12_addOrder_22 rfl rfl ?_
    refine zr_getR (pc := 23) hV 12 9 dX12_addOrder_23 fX12_44 rfl rfl rfl (by decide) (zx_g12 hσ21) (by omega) ?_
    refine zr_aload_n (pc := 26) hV dX12_addOrder_26 rfl rfl ?_
    refine zr_getI (pc := 27) hV 3 dX12_addOrder_27 fX12_150 rfl rfl rfl (by decide) ?_
    have t4 := zx_g3 hσ21
    have t5 : σ21 0 3 = σ 0 3 := by rw [eσ21]; exact zq_up_ne (by omega)
    refine zr_iconst (pc := 30) hV (-1) dX12_addOrder_30 rfl ?_
    refine zr_iast (pc := 31) hV dX12_addOrder_31 rfl (by decide) rfl (by omega) (fun σ31 eσ31 => ?_)
    have hσ31 : zx_T σ31 := zx_ua9 eσ31 hσ21 (by omega)
    have hFσ31 : ∀ a i : Int, (¬ (a = 0 ∧ i = 3) ∧ ¬ (a = 0 ∧ i = 30) ∧ a ≠ 8 ∧ a ≠ 9) → σ31 a i = σ a i := fun a i h => by rw [eσ31, zq_up_ne (fun q => h.2.2.2 q.1)]; exact hFσ21 a i h
    have Mσ31 : zx_M σ31 := zx_M_fr (fun i => by rw [eσ31]; exact zq_up_ne (by omega)) (by rw [eσ31]; exact zq_up_ne (by omega)) (by rw [eσ31]; exact zq_up_ne (by omega)) (by rw [eσ31]; exact zq_up_ne (by omega)) Mσ21
    have Oσ31 : zx_O σ31 := zx_O_fr (fun i => by rw [eσ31]; exact zq_up_ne (by omega)) (fun i => by rw [eσ31]; exact zq_up_ne (by omega)) (fun i => by rw [eσ31]; exact zq_up_ne (by omega)) (by rw [eσ31]; exact zq_up_ne (by omega)) (by rw [eσ31]; exact zq_up_ne (by omega)) Oσ21
    have Tσ31 : zx_TK σ31 := zx_TK_fr (fun i => by rw [eσ31]; exact zq_up_ne (by omega)) (by rw [eσ31]; exact zq_up_ne (by omega)) Tσ21
    refine zr_aload_n (pc := 32) hV dX12_addOrder_32 rfl rfl ?_
    refine zr_dup (pc := 33) hV dX12_addOrder_33 (fun _ => rfl) ?_
    refine zr_getI (pc := 34) hV 3 dX12_addOrder_34 fX12_150 rfl rfl rfl (by decide) ?_
    have t6 := zx_g3 hσ31
    have t7 : σ31 0 3 = σ21 0 3 := by rw [eσ31]; exact zq_up_ne (by omega)
    have t8 : σ21 0 3 = σ 0 3 := by rw [eσ21]; exact zq_up_ne (by omega)
    refine zr_iconst (pc := 37) hV 1 dX12_addOrder_37 rfl ?_
    refine zr_iadd (pc := 38) hV dX12_addOrder_38 ?_
    refine zr_putI (pc := 39) hV 3 dX12_addOrder_39 fX12_150 rfl rfl rfl rfl (by decide) (fun σ39 eσ39 => ?_)
    have hσ39 : zx_T σ39 := zx_u3 eσ39 hσ31 (by omega)
    have hFσ39 : ∀ a i : Int, (¬ (a = 0 ∧ i = 3) ∧ ¬ (a = 0 ∧ i = 30) ∧ a ≠ 8 ∧ a ≠ 9) → σ39 a i = σ a i := fun a i h => by rw [eσ39, zq_up_ne h.1]; exact hFσ31 a i h
    have Oσ39 : zx_O σ39 := zx_O_inc Oσ31 (by rw [show σ31 0 3 = σ 0 3 by omega]; exact zx_A_fr (fun i => hFσ31 5 i (by omega)) (fun i => hFσ31 6 i (by omega)) q0) (by rw [show σ31 0 3 = σ 0 3 by omega]; exact zx_B_fr (fun i => hFσ31 2 i (by omega)) (hFσ31 0 2 (by omega)) q1) eσ39 rfl
    have Tσ39 : zx_TK σ39 := zx_TK_inc Tσ31 (by rw [eσ39, zq_up_same]) (fun i => by rw [eσ39]; exact zq_up_ne (by omega)) (by rw [show σ31 0 3 = σ 0 3 by omega, hFσ31 7 _ (by omega)]; exact q2)
    refine zr_aload_n (pc := 42) hV dX12_addOrder_42 rfl rfl ?_
    refine zr_iconst (pc := 43) hV 0 dX12_addOrder_43 rfl ?_
    refine zr_putZ (pc := 44) hV 30 dX12_addOrder_44 fX12_153 rfl rfl rfl (by omega) rfl (by decide) (fun σ44 eσ44 => ?_)
    have hσ44 : zx_T σ44 := zx_u30 eσ44 hσ39 (by omega)
    have hFσ44 : ∀ a i : Int, (¬ (a = 0 ∧ i = 3) ∧ ¬ (a = 0 ∧ i = 30) ∧ a ≠ 8 ∧ a ≠ 9) → σ44 a i = σ a i := fun a i h => by rw [eσ44, zq_up_ne h.2.1]; exact hFσ39 a i h
    have Mσ44 : zx_M σ44 := zx_M_0 (by rw [eσ44, zq_up_same])
    have Oσ44 : zx_O σ44 := zx_O_fr (fun i => by rw [eσ44]; exact zq_up_ne (by omega)) (fun i => by rw [eσ44]; exact zq_up_ne (by omega)) (fun i => by rw [eσ44]; exact zq_up_ne (by omega)) (by rw [eσ44]; exact zq_up_ne (by omega)) (by rw [eσ44]; exact zq_up_ne (by omega)) Oσ39
    have Tσ44 : zx_TK σ44 := zx_TK_fr (fun i => by rw [eσ44]; exact zq_up_ne (by omega)) (by rw [eσ44]; exact zq_up_ne (by omega)) Tσ39
    refine zr_aload_n (pc := 47) hV dX12_addOrder_47 rfl rfl ?_
    refine zr_getI (pc := 48) hV 3 dX12_addOrder_48 fX12_150 rfl rfl rfl (by decide) ?_
    have t9 := zx_g3 hσ44
    have t10 : σ44 0 3 = σ39 0 3 := by rw [eσ44]; exact zq_up_ne (by omega)
    have t11 : σ39 0 3 = (σ31 0 3) + 1 := by rw [eσ39]; exact zq_up_same _ _ _ _
    refine zr_iconst (pc := 51) hV 1 dX12_addOrder_51 rfl ?_
    refine zr_isub (pc := 52) hV dX12_addOrder_52 ?_
    exact zr_iret (pc := 53) hV dX12_addOrder_53 rfl rfl ⟨_, rfl, (by omega), hσ44, hFσ44, trivial, Mσ44, Oσ44, Tσ44⟩
  · show V 9 [some (ZR 0)] [] 41 σ
    refine zr_bipush (pc := 9) hV (-3) dX12_addOrder_9 (by decide) ?_
    exact zr_iret (pc := 11) hV dX12_addOrder_11 rfl rfl ⟨_, rfl, ⟨by decide, by decide⟩, hσ, (fun a i _ => rfl), trivial, Mσ, Oσ, Tσ⟩
set_option maxHeartbeats 800000 in
theorem c_X12_readOrder2 {σ : zq_S} (hσ : zx_T σ) (o : Int) (q0 : 0 ≤ o ∧ o ≤ 20) : zq_C zx_w yX12_readOrder cX12_readOrder 4 (some .boolean) 5 120 41 41 [ZR 0, ZI o] σ (zq_pi (fun r τ => zx_T τ ∧ (∀ a i : Int, (¬ (a = 0 ∧ i = 15) ∧ ¬ (a = 0 ∧ i = 16) ∧ ¬ (a = 0 ∧ i = 17) ∧ ¬ (a = 1 ∧ i = o) ∧ ¬ (a = 2 ∧ 12 * o ≤ i ∧ i < 12 * o + 12) ∧ ¬ (a = 3 ∧ i = o) ∧ ¬ (a = 4 ∧ i = o) ∧ ¬ (a = 5 ∧ i = o) ∧ ¬ (a = 6 ∧ 18 * o ≤ i ∧ i < 18 * o + 18) ∧ ¬ (a = 7 ∧ i = o)) → τ a i = σ a i) ∧ ((r = 0 ∨ r = 1)) ∧ zq_hid (r = 1 → zx_A τ o ∧ zx_B τ o ∧ 1 ≤ τ 7 o))) := by
  refine zq_C_of (by decide) (Nat.le_refl _) (Nat.le_of_ble_eq_true rfl) [some (ZR 0), some (ZI o), none, none] rfl (fun V hV => ?_)
  show V 0 [some (ZR 0), some (ZI o), none, none] [] 41 σ
  refine zr_aload_n (pc := 0) hV dX12_readOrder_0 rfl rfl ?_
  refine zr_iconst (pc := 1) hV 0 dX12_readOrder_1 rfl ?_
  refine zr_putI (pc := 2) hV 15 dX12_readOrder_2 fX12_200 rfl rfl rfl rfl (by decide) (fun σ2 eσ2 => ?_)
  have hσ2 : zx_T σ2 := zx_u15 eσ2 hσ (by omega)
  have hFσ2 : ∀ a i : Int, (¬ (a = 0 ∧ i = 15) ∧ ¬ (a = 0 ∧ i = 16) ∧ ¬ (a = 0 ∧ i = 17) ∧ ¬ (a = 1 ∧ i = o) ∧ ¬ (a = 2 ∧ 12 * o ≤ i ∧ i < 12 * o + 12) ∧ ¬ (a = 3 ∧ i = o) ∧ ¬ (a = 4 ∧ i = o) ∧ ¬ (a = 5 ∧ i = o) ∧ ¬ (a = 6 ∧ 18 * o ≤ i ∧ i < 18 * o + 18) ∧ ¬ (a = 7 ∧ i = o)) → σ2 a i = σ a i := fun a i h => by rw [eσ2, zq_up_ne h.1]
  refine zr_aload_n (pc := 5) hV dX12_readOrder_5 rfl rfl ?_
  refine zr_getR (pc := 6) hV 4 1 dX12_readOrder_6 fX12_19 rfl rfl rfl (by decide) (zx_g4 hσ2) (by omega) ?_
  refine zr_iload_n (pc := 9) hV dX12_readOrder_9 rfl rfl ?_
  refine zr_aload_n (pc := 10) hV dX12_readOrder_10 rfl rfl ?_
  refine zr_callVi (pc := 11) hV [] (st := [ZI o, ZR 1]) (c_X12_readNewName (σ := σ2) hσ2 ) dX12_readOrder_11 mX12_248 rfl (by decide) (by decide) (Nat.le_of_ble_eq_true rfl) (Nat.le_refl _) (fun r11 σ11 hr11 pσ11 => ?_)
  obtain ⟨hσ11, hfσ11, pσ11⟩ := pσ11
  have hFσ11 : ∀ a i : Int, (¬ (a = 0 ∧ i = 15) ∧ ¬ (a = 0 ∧ i = 16) ∧ ¬ (a = 0 ∧ i = 17) ∧ ¬ (a = 1 ∧ i = o) ∧ ¬ (a = 2 ∧ 12 * o ≤ i ∧ i < 12 * o + 12) ∧ ¬ (a = 3 ∧ i = o) ∧ ¬ (a = 4 ∧ i = o) ∧ ¬ (a = 5 ∧ i = o) ∧ ¬ (a = 6 ∧ 18 * o ≤ i ∧ i < 18 * o + 18) ∧ ¬ (a = 7 ∧ i = o)) → σ11 a i = σ a i := fun a i h => (hfσ11 a i ⟨h.1, h.2.1⟩).trans (hFσ2 a i h)
  refine zr_iast (pc := 14) hV dX12_readOrder_14 rfl (by decide) rfl (by omega) (fun σ14 eσ14 => ?_)
  have hσ14 : zx_T σ14 := zx_ua1 eσ14 hσ11 (by omega)
  have hFσ14 : ∀ a i : Int, (¬ (a = 0 ∧ i = 15) ∧ ¬ (a = 0 ∧ i = 16) ∧ ¬ (a = 0 ∧ i = 17) ∧ ¬ (a = 1 ∧ i = o) ∧ ¬ (a = 2 ∧ 12 * o ≤ i ∧ i < 12 * o + 12) ∧ ¬ (a = 3 ∧ i = o) ∧ ¬ (a = 4 ∧ i = o) ∧ ¬ (a = 5 ∧ i = o) ∧ ¬ (a = 6 ∧ 18 * o ≤ i ∧ i < 18 * o + 18) ∧ ¬ (a = 7 ∧ i = o)) → σ14 a i = σ a i := fun a i h => by rw [eσ14, zq_up_ne (fun q => h.2.2.2.1 ⟨q.1, by omega⟩)]; exact hFσ11 a i h
  refine zr_aload_n (pc := 15) hV dX12_readOrder_15 rfl rfl ?_
  refine zr_getR (pc := 16) hV 4 1 dX12_readOrder_16 fX12_19 rfl rfl rfl (by decide) (zx_g4 hσ14) (by omega) ?_
  refine zr_iload_n (pc := 19) hV dX12_readOrder_19 rfl rfl ?_
  refine zr_iald (pc := 20) hV dX12_readOrder_20 rfl (by decide) rfl (by omega) ?_
  have t1 := zx_ga1 hσ14 o
  have t2 : σ14 1 o = r11 := by rw [eσ14]; exact zq_up_same _ _ _ _
  refine zr_if_eq (pc := 21) hV 58 dX12_readOrder_21 (by decide) (by omega) (fun c3 => ?_) (fun c3 => ?_)
  · show V 58 [some (ZR 0), some (ZI o), none, none] [] 41 σ14
    refine zr_iconst (pc := 58) hV 0 dX12_readOrder_58 rfl ?_
    exact zr_zret (pc := 59) hV dX12_readOrder_59 rfl rfl (by omega) ⟨_, rfl, ⟨by decide, by decide⟩, hσ14, hFσ14, (by omega), (show (0 : Int) = 1 → zx_A σ14 o ∧ zx_B σ14 o ∧ 1 ≤ σ14 7 o from (fun h => absurd h (by omega)))⟩
  · show V 24 [some (ZR 0), some (ZI o), none, none] [] 41 σ14
    refine zr_aload_n (pc := 24) hV dX12_readOrder_24 rfl rfl ?_
    refine zr_bipush (pc := 25) hV 58 dX12_readOrder_25 (by decide) ?_
    refine zr_callVi (pc := 27) hV [ZI 58] (st := []) (c_X12_takes (σ := σ14) hσ14 58 (by omega)) dX12_readOrder_27 mX12_234 rfl (by decide) (by decide) (Nat.le_of_ble_eq_true rfl) (Nat.le_refl _) (fun r27 σ27 hr27 pσ27 => ?_)
    obtain ⟨hσ27, hfσ27, pσ27⟩ := pσ27
    have hFσ27 : ∀ a i : Int, (¬ (a = 0 ∧ i = 15) ∧ ¬ (a = 0 ∧ i = 16) ∧ ¬ (a = 0 ∧ i = 17) ∧ ¬ (a = 1 ∧ i = o) ∧ ¬ (a = 2 ∧ 12 * o ≤ i ∧ i < 12 * o + 12) ∧ ¬ (a = 3 ∧ i = o) ∧ ¬ (a = 4 ∧ i = o) ∧ ¬ (a = 5 ∧ i = o) ∧ ¬ (a = 6 ∧ 18 * o ≤ i ∧ i < 18 * o + 18) ∧ ¬ (a = 7 ∧ i = o)) → σ27 a i = σ a i := fun a i h => (hfσ27 a i h.1).trans (hFσ14 a i h)
    have t4 := zx_g15 hσ14
    have t5 : σ14 0 15 = σ11 0 15 := by rw [eσ14]; exact zq_up_ne (by omega)
    have t6 := zx_g15 hσ27
    refine zr_if_eq (pc := 30) hV 58 dX12_readOrder_30 (by decide) (by omega) (fun c7 => ?_) (fun c7 => ?_)
    · show V 58 [some (ZR 0), some (ZI o), none, none] [] 41 σ27
      refine zr_iconst (pc := 58) hV 0 dX12_readOrder_58 rfl ?_
      exact zr_zret (pc := 59) hV dX12_readOrder_59 rfl rfl (by omega) ⟨_, rfl, ⟨by decide, by decide⟩, hσ27, hFσ27, (by omega), (show (0 : Int) = 1 → zx_A σ27 o ∧ zx_B σ27 o ∧ 1 ≤ σ27 7 o from (fun h => absurd h (by omega)))⟩
    · show V 33 [some (ZR 0), some (ZI o), none, none] [] 41 σ27
      refine zr_aload_n (pc := 33) hV dX12_readOrder_33 rfl rfl ?_
      refine zr_iload_n (pc := 34) hV dX12_readOrder_34 rfl rfl ?_
      refine zr_callVi (pc := 35) hV [ZI o] (st := []) (c_X12_readLook (σ := σ27) hσ27 o (by omega)) dX12_readOrder_35 mX12_251 rfl (by decide) (by decide) (Nat.le_of_ble_eq_true rfl) (Nat.le_refl _) (fun r35 σ35 hr35 pσ35 => ?_)
      obtain ⟨hσ35, hfσ35, pσ35, wσ35⟩ := pσ35
      have hFσ35 : ∀ a i : Int, (¬ (a = 0 ∧ i = 15) ∧ ¬ (a = 0 ∧ i = 16) ∧ ¬ (a = 0 ∧ i = 17) ∧ ¬ (a = 1 ∧ i = o) ∧ ¬ (a = 2 ∧ 12 * o ≤ i ∧ i < 12 * o + 12) ∧ ¬ (a = 3 ∧ i = o) ∧ ¬ (a = 4 ∧ i = o) ∧ ¬ (a = 5 ∧ i = o) ∧ ¬ (a = 6 ∧ 18 * o ≤ i ∧ i < 18 * o + 18) ∧ ¬ (a = 7 ∧ i = o)) → σ35 a i = σ a i := fun a i h => (hfσ35 a i ⟨h.1, (fun q => h.2.2.2.2.1 ⟨q.1, by omega⟩)⟩).trans (hFσ27 a i h)
      refine zr_if_eq (pc := 38) hV 58 dX12_readOrder_38 (by decide) (by omega) (fun c8 => ?_) (fun c8 => ?_)
      · show V 58 [some (ZR 0), some (ZI o), none, none] [] 41 σ35
        refine zr_iconst (pc := 58) hV 0 dX12_readOrder_58 rfl ?_
        exact zr_zret (pc := 59) hV dX12_readOrder_59 rfl rfl (by omega) ⟨_, rfl, ⟨by decide, by decide⟩, hσ35, hFσ35, (by omega), (show (0 : Int) = 1 → zx_A σ35 o ∧ zx_B σ35 o ∧ 1 ≤ σ35 7 o from (fun h => absurd h (by omega)))⟩
      · show V 41 [some (ZR 0), some (ZI o), none, none] [] 41 σ35
        refine zr_aload_n (pc := 41) hV dX12_readOrder_41 rfl rfl ?_
        refine zr_bipush (pc := 42) hV 58 dX12_readOrder_42 (by decide) ?_
        refine zr_callVi (pc := 44) hV [ZI 58] (st := []) (c_X12_takes (σ := σ35) hσ35 58 (by omega)) dX12_readOrder_44 mX12_234 rfl (by decide) (by decide) (Nat.le_of_ble_eq_true rfl) (Nat.le_refl _) (fun r44 σ44 hr44 pσ44 => ?_)
        obtain ⟨hσ44, hfσ44, pσ44⟩ := pσ44
        have hFσ44 : ∀ a i : Int, (¬ (a = 0 ∧ i = 15) ∧ ¬ (a = 0 ∧ i = 16) ∧ ¬ (a = 0 ∧ i = 17) ∧ ¬ (a = 1 ∧ i = o) ∧ ¬ (a = 2 ∧ 12 * o ≤ i ∧ i < 12 * o + 12) ∧ ¬ (a = 3 ∧ i = o) ∧ ¬ (a = 4 ∧ i = o) ∧ ¬ (a = 5 ∧ i = o) ∧ ¬ (a = 6 ∧ 18 * o ≤ i ∧ i < 18 * o + 18) ∧ ¬ (a = 7 ∧ i = o)) → σ44 a i = σ a i := fun a i h => (hfσ44 a i h.1).trans (hFσ35 a i h)
        have t9 := zx_g15 hσ35
        have t10 := zx_g15 hσ44
        refine zr_if_eq (pc := 47) hV 58 dX12_readOrder_47 (by decide) (by omega) (fun c11 => ?_) (fun c11 => ?_)
        · show V 58 [some (ZR 0), some (ZI o), none, none] [] 41 σ44
          refine zr_iconst (pc := 58) hV 0 dX12_readOrder_58 rfl ?_
          exact zr_zret (pc := 59) hV dX12_readOrder_59 rfl rfl (by omega) ⟨_, rfl, ⟨by decide, by decide⟩, hσ44, hFσ44, (by omega), (show (0 : Int) = 1 → zx_A σ44 o ∧ zx_B σ44 o ∧ 1 ≤ σ44 7 o from (fun h => absurd h (by omega)))⟩
        · show V 50 [some (ZR 0), some (ZI o), none, none] [] 41 σ44
          refine zr_aload_n (pc := 50) hV dX12_readOrder_50 rfl rfl ?_
          refine zr_iload_n (pc := 51) hV dX12_readOrder_51 rfl rfl ?_
          refine zr_callVi (pc := 52) hV [ZI o] (st := []) (c_X12_readGuard (σ := σ44) hσ44 o (by omega)) dX12_readOrder_52 mX12_254 rfl (by decide) (by decide) (Nat.le_of_ble_eq_true rfl) (Nat.le_refl _) (fun r52 σ52 hr52 pσ52 => ?_)
          obtain ⟨hσ52, hfσ52, pσ52⟩ := pσ52
          have hFσ52 : ∀ a i : Int, (¬ (a = 0 ∧ i = 15) ∧ ¬ (a = 0 ∧ i = 16) ∧ ¬ (a = 0 ∧ i = 17) ∧ ¬ (a = 1 ∧ i = o) ∧ ¬ (a = 2 ∧ 12 * o ≤ i ∧ i < 12 * o + 12) ∧ ¬ (a = 3 ∧ i = o) ∧ ¬ (a = 4 ∧ i = o) ∧ ¬ (a = 5 ∧ i = o) ∧ ¬ (a = 6 ∧ 18 * o ≤ i ∧ i < 18 * o + 18) ∧ ¬ (a = 7 ∧ i = o)) → σ52 a i = σ a i := fun a i h => (hfσ52 a i ⟨h.1, (fun q => h.2.2.2.2.2.1 ⟨q.1, by omega⟩), (fun q => h.2.2.2.2.2.2.1 ⟨q.1, by omega⟩)⟩).trans (hFσ44 a i h)
          refine zr_if_ne (pc := 55) hV 60 dX12_readOrder_55 (by decide) (by omega) (fun c12 => ?_) (fun c12 => ?_)
          · show V 60 [some (ZR 0), some (ZI o), none, none] [] 41 σ52
            have B35 := wσ35 (by omega)
            have B44 : zx_B σ44 o := zx_B_fr (fun i => hfσ44 2 i (by omega)) (hfσ44 0 2 (by omega)) B35
            have B52 : zx_B σ52 o := zx_B_fr (fun i => hfσ52 2 i (by omega)) (hfσ52 0 2 (by omega)) B44
            refine zr_aload_n (pc := 60) hV dX12_readOrder_60 rfl rfl ?_
            refine zr_getR (pc := 61) hV 8 5 dX12_readOrder_61 fX12_32 rfl rfl rfl (by decide) (zx_g8 hσ52) (by omega) ?_
            refine zr_iload_n (pc := 64) hV dX12_readOrder_64 rfl rfl ?_
            refine zr_iconst (pc := 65) hV 0 dX12_readOrder_65 rfl ?_
            refine zr_iast (pc := 66) hV dX12_readOrder_66 rfl (by decide) rfl (by omega) (fun σ66 eσ66 => ?_)
            have hσ66 : zx_T σ66 := zx_ua5 eσ66 hσ52 (by omega)
            have hFσ66 : ∀ a i : Int, (¬ (a = 0 ∧ i = 15) ∧ ¬ (a = 0 ∧ i = 16) ∧ ¬ (a = 0 ∧ i = 17) ∧ ¬ (a = 1 ∧ i = o) ∧ ¬ (a = 2 ∧ 12 * o ≤ i ∧ i < 12 * o + 12) ∧ ¬ (a = 3 ∧ i = o) ∧ ¬ (a = 4 ∧ i = o) ∧ ¬ (a = 5 ∧ i = o) ∧ ¬ (a = 6 ∧ 18 * o ≤ i ∧ i < 18 * o + 18) ∧ ¬ (a = 7 ∧ i = o)) → σ66 a i = σ a i := fun a i h => by rw [eσ66, zq_up_ne (fun q => h.2.2.2.2.2.2.2.1 ⟨q.1, by omega⟩)]; exact hFσ52 a i h
            have B66 : zx_B σ66 o := zx_B_fr (fun i => by rw [eσ66]; exact zq_up_ne (by omega)) (by rw [eσ66]; exact zq_up_ne (by omega)) B52
            have a66 : σ66 5 o = 0 := by rw [eσ66, zq_up_same]
            refine zr_iconst (pc := 67) hV 1 dX12_readOrder_67 rfl ?_
            refine zr_istore_n (pc := 68) hV [some (ZR 0), some (ZI o), some (ZI 1), none] dX12_readOrder_68 rfl (by decide) rfl rfl ?_
            have L69 : ∀ (fuel : Nat) (x2_69 : Int) (σ_69 : zq_S), (0 ≤ x2_69 ∧ x2_69 ≤ 1) → (zx_T σ_69) → (∀ a i : Int, (¬ (a = 0 ∧ i = 15) ∧ ¬ (a = 0 ∧ i = 16) ∧ ¬ (a = 0 ∧ i = 17) ∧ ¬ (a = 1 ∧ i = o) ∧ ¬ (a = 2 ∧ 12 * o ≤ i ∧ i < 12 * o + 12) ∧ ¬ (a = 3 ∧ i = o) ∧ ¬ (a = 4 ∧ i = o) ∧ ¬ (a = 5 ∧ i = o) ∧ ¬ (a = 6 ∧ 18 * o ≤ i ∧ i < 18 * o + 18) ∧ ¬ (a = 7 ∧ i = o)) → σ_69 a i = σ a i) → (σ_69 5 o ≤ 3) → (x2_69 = 1 → σ_69 5 o ≤ 2) → (zx_A σ_69 o) → (zx_B σ_69 o) → 3 - σ_69 5 o < (fuel : Int) → V 69 [some (ZR 0), some (ZI o), some (ZI x2_69), none] [] 41 σ_69 := by
              intro fuel
              induction fuel with
              | zero =>
                intro x2_69 σ_69 hx2_69 hσ_69 hFσ_69 hi69_0 hi69_1 hi69_2 hi69_3 hm69
                exfalso; omega
              | succ fuel ih =>
                intro x2_69 σ_69 hx2_69 hσ_69 hFσ_69 hi69_0 hi69_1 hi69_2 hi69_3 hm69
                have ih69 := ih
                show V 69 [some (ZR 0), some (ZI o), some (ZI x2_69), none] [] 41 σ_69
                refine zr_iload_n (pc := 69) hV dX12_readOrder_69 rfl rfl ?_
                refine zr_if_eq (pc := 70) hV 127 dX12_readOrder_70 (by decide) (by omega) (fun c13 => ?_) (fun c13 => ?_)
                · show V 127 [some (ZR 0), some (ZI o), some (ZI x2_69), none] [] 41 σ_69
                  refine zr_aload_n (pc := 127) hV dX12_readOrder_127 rfl rfl ?_
                  refine zr_bipush (pc := 128) hV 58 dX12_readOrder_128 (by decide) ?_
                  refine zr_callVi (pc := 130) hV [ZI 58] (st := []) (c_X12_takes (σ := σ_69) hσ_69 58 (by omega)) dX12_readOrder_130 mX12_234 rfl (by decide) (by decide) (Nat.le_of_ble_eq_true rfl) (Nat.le_refl _) (fun r130 σ130 hr130 pσ130 => ?_)
                  obtain ⟨hσ130, hfσ130, pσ130⟩ := pσ130
                  have hFσ130 : ∀ a i : Int, (¬ (a = 0 ∧ i = 15) ∧ ¬ (a = 0 ∧ i = 16) ∧ ¬ (a = 0 ∧ i = 17) ∧ ¬ (a = 1 ∧ i = o) ∧ ¬ (a = 2 ∧ 12 * o ≤ i ∧ i < 12 * o + 12) ∧ ¬ (a = 3 ∧ i = o) ∧ ¬ (a = 4 ∧ i = o) ∧ ¬ (a = 5 ∧ i = o) ∧ ¬ (a = 6 ∧ 18 * o ≤ i ∧ i < 18 * o + 18) ∧ ¬ (a = 7 ∧ i = o)) → σ130 a i = σ a i := fun a i h => (hfσ130 a i h.1).trans (hFσ_69 a i h)
                  have t14 := zx_g15 hσ_69
                  have t15 := zx_g15 hσ130
                  refine zr_if_ne (pc := 133) hV 138 dX12_readOrder_133 (by decide) (by omega) (fun c16 => ?_) (fun c16 => ?_)
                  · show V 138 [some (ZR 0), some (ZI o), some (ZI x2_69), none] [] 41 σ130
                    refine zr_aload_n (pc := 138) hV dX12_readOrder_138 rfl rfl ?_
                    refine zr_callVi (pc := 139) hV [] (st := []) (c_X12_next (σ := σ130) hσ130 ) dX12_readOrder_139 mX12_203 rfl (by decide) (by decide) (Nat.le_of_ble_eq_true rfl) (Nat.le_refl _) (fun r139 σ139 hr139 pσ139 => ?_)
                    obtain ⟨hσ139, hfσ139, pσ139, wσ139⟩ := pσ139
                    have hFσ139 : ∀ a i : Int, (¬ (a = 0 ∧ i = 15) ∧ ¬ (a = 0 ∧ i = 16) ∧ ¬ (a = 0 ∧ i = 17) ∧ ¬ (a = 1 ∧ i = o) ∧ ¬ (a = 2 ∧ 12 * o ≤ i ∧ i < 12 * o + 12) ∧ ¬ (a = 3 ∧ i = o) ∧ ¬ (a = 4 ∧ i = o) ∧ ¬ (a = 5 ∧ i = o) ∧ ¬ (a = 6 ∧ 18 * o ≤ i ∧ i < 18 * o + 18) ∧ ¬ (a = 7 ∧ i = o)) → σ139 a i = σ a i := fun a i h => (hfσ139 a i h.1).trans (hFσ130 a i h)
                    have t17 := zx_g14 hσ130
                    have t18 : σ130 0 14 = σ_69 0 14 := hfσ130 _ _ (by omega)
                    have t19 : σ_69 0 14 = σ 0 14 := hFσ_69 _ _ (by omega)
                    have t20 := zx_g15 hσ130
                    have t21 := zx_g15 hσ139
                    refine zr_istore_n (pc := 142) hV [some (ZR 0), some (ZI o), some (ZI x2_69), some (ZI r139)] dX12_readOrder_142 rfl (by decide) rfl rfl ?_
                    refine zr_iload_n (pc := 143) hV dX12_readOrder_143 rfl rfl ?_
                    refine zr_i2l (pc := 144) hV dX12_readOrder_144 (by omega) ?_
                    refine zr_ldc2 (pc := 145) (v := 49) hV 49 dX12_readOrder_145 kX12_260 (by decide) ?_
                    refine zr_ldc2 (pc := 148) (v := 57) hV 57 dX12_readOrder_148 kX12_209 (by decide) ?_
                    refine zr_callSp (pc := 151) hV [ZL r139, ZL 49, ZL 57] (st := []) (c_X12_in (σ := σ139) r139 49 57 (by omega) (by omega) (by omega)) dX12_readOrder_151 mX12_170 (by decide) (Nat.le_of_ble_eq_true rfl) (Nat.le_refl _) (fun r151 hr151 pr151 => ?_)
                    refine zr_if_ne (pc := 154) hV 159 dX12_readOrder_154 (by decide) (by omega) (fun c22 => ?_) (fun c22 => ?_)
                    · show V 159 [some (ZR 0), some (ZI o), some (ZI x2_69), some (ZI r139)] [] 41 σ139
                      refine zr_aload_n (pc := 159) hV dX12_readOrder_159 rfl rfl ?_
                      refine zr_getR (pc := 160) hV 10 7 dX12_readOrder_160 fX12_38 rfl rfl rfl (by decide) (zx_g10 hσ139) (by omega) ?_
                      refine zr_iload_n (pc := 163) hV dX12_readOrder_163 rfl rfl ?_
                      refine zr_iload_n (pc := 164) hV dX12_readOrder_164 rfl rfl ?_
                      refine zr_bipush (pc := 165) hV 48 dX12_readOrder_165 (by decide) ?_
                      refine zr_isub (pc := 167) hV dX12_readOrder_167 ?_
                      refine zr_iast (pc := 168) hV dX12_readOrder_168 rfl (by decide) rfl (by omega) (fun σ168 eσ168 => ?_)
                      have hσ168 : zx_T σ168 := zx_ua7 eσ168 hσ139 (by omega)
                      have hFσ168 : ∀ a i : Int, (¬ (a = 0 ∧ i = 15) ∧ ¬ (a = 0 ∧ i = 16) ∧ ¬ (a = 0 ∧ i = 17) ∧ ¬ (a = 1 ∧ i = o) ∧ ¬ (a = 2 ∧ 12 * o ≤ i ∧ i < 12 * o + 12) ∧ ¬ (a = 3 ∧ i = o) ∧ ¬ (a = 4 ∧ i = o) ∧ ¬ (a = 5 ∧ i = o) ∧ ¬ (a = 6 ∧ 18 * o ≤ i ∧ i < 18 * o + 18) ∧ ¬ (a = 7 ∧ i = o)) → σ168 a i = σ a i := fun a i h => by rw [eσ168, zq_up_ne (fun q => h.2.2.2.2.2.2.2.2.2 ⟨q.1, by omega⟩)]; exact hFσ139 a i h
                      refine zr_aload_n (pc := 169) hV dX12_readOrder_169 rfl rfl ?_
                      refine zr_dup (pc := 170) hV dX12_readOrder_170 (fun _ => rfl) ?_
                      refine zr_getI (pc := 171) hV 15 dX12_readOrder_171 fX12_200 rfl rfl rfl (by decide) ?_
                      have t23 := zx_g15 hσ168
                      have t24 : σ168 0 15 = σ139 0 15 := by rw [eσ168]; exact zq_up_ne (by omega)
                      refine zr_iconst (pc := 174) hV 1 dX12_readOrder_174 rfl ?_
                      refine zr_iadd (pc := 175) hV dX12_readOrder_175 ?_
                      refine zr_putI (pc := 176) hV 15 dX12_readOrder_176 fX12_200 rfl rfl rfl rfl (by decide) (fun σ176 eσ176 => ?_)
                      have hσ176 : zx_T σ176 := zx_u15 eσ176 hσ168 (by omega)
                      have hFσ176 : ∀ a i : Int, (¬ (a = 0 ∧ i = 15) ∧ ¬ (a = 0 ∧ i = 16) ∧ ¬ (a = 0 ∧ i = 17) ∧ ¬ (a = 1 ∧ i = o) ∧ ¬ (a = 2 ∧ 12 * o ≤ i ∧ i < 12 * o + 12) ∧ ¬ (a = 3 ∧ i = o) ∧ ¬ (a = 4 ∧ i = o) ∧ ¬ (a = 5 ∧ i = o) ∧ ¬ (a = 6 ∧ 18 * o ≤ i ∧ i < 18 * o + 18) ∧ ¬ (a = 7 ∧ i = o)) → σ176 a i = σ a i := fun a i h => by rw [eσ176, zq_up_ne h.1]; exact hFσ168 a i h
                      refine zr_aload_n (pc := 179) hV dX12_readOrder_179 rfl rfl ?_
                      refine zr_callVi (pc := 180) hV [] (st := []) (c_X12_next (σ := σ176) hσ176 ) dX12_readOrder_180 mX12_203 rfl (by decide) (by decide) (Nat.le_of_ble_eq_true rfl) (Nat.le_refl _) (fun r180 σ180 hr180 pσ180 => ?_)
                      obtain ⟨hσ180, hfσ180, pσ180, wσ180⟩ := pσ180
                      have hFσ180 : ∀ a i : Int, (¬ (a = 0 ∧ i = 15) ∧ ¬ (a = 0 ∧ i = 16) ∧ ¬ (a = 0 ∧ i = 17) ∧ ¬ (a = 1 ∧ i = o) ∧ ¬ (a = 2 ∧ 12 * o ≤ i ∧ i < 12 * o + 12) ∧ ¬ (a = 3 ∧ i = o) ∧ ¬ (a = 4 ∧ i = o) ∧ ¬ (a = 5 ∧ i = o) ∧ ¬ (a = 6 ∧ 18 * o ≤ i ∧ i < 18 * o + 18) ∧ ¬ (a = 7 ∧ i = o)) → σ180 a i = σ a i := fun a i h => (hfσ180 a i h.1).trans (hFσ176 a i h)
                      have t25 := zx_g14 hσ176
                      have t26 : σ176 0 14 = σ168 0 14 := by rw [eσ176]; exact zq_up_ne (by omega)
                      have t27 : σ168 0 14 = σ139 0 14 := by rw [eσ168]; exact zq_up_ne (by omega)
                      have t28 : σ139 0 14 = σ130 0 14 := hfσ139 _ _ (by omega)
                      have t29 : σ130 0 14 = σ_69 0 14 := hfσ130 _ _ (by omega)
                      have t30 : σ_69 0 14 = σ 0 14 := hFσ_69 _ _ (by omega)
                      have t31 := zx_g15 hσ176
                      have t32 : σ176 0 15 = (σ168 0 15) + 1 := by rw [eσ176]; exact zq_up_same _ _ _ _
                      have t33 := zx_g15 hσ180
                      refine zr_if_ge (pc := 183) hV 190 dX12_readOrder_183 (by decide) (by omega) (fun c34 => ?_) (fun c34 => ?_)
                      · show V 190 [some (ZR 0), some (ZI o), some (ZI x2_69), some (ZI r139)] [] 41 σ180
                        refine zr_iconst (pc := 190) hV 0 dX12_readOrder_190 rfl ?_
                        show V 191 [some (ZR 0), some (ZI o), some (ZI x2_69), some (ZI r139)] [ZI 0] 41 σ180
                        exact zr_zret (pc := 191) hV dX12_readOrder_191 rfl rfl (by omega) ⟨_, rfl, ⟨by decide, by decide⟩, hσ180, hFσ180, (by omega), (show (0 : Int) = 1 → zx_A σ180 o ∧ zx_B σ180 o ∧ 1 ≤ σ180 7 o from (fun h => absurd h (by omega)))⟩
                      · show V 186 [some (ZR 0), some (ZI o), some (ZI x2_69), some (ZI r139)] [] 41 σ180
                        refine zr_iconst (pc := 186) hV 1 dX12_readOrder_186 rfl ?_
                        refine zr_goto (pc := 187) hV 191 dX12_readOrder_187 (by decide) ?_
                        show V 191 [some (ZR 0), some (ZI o), some (ZI x2_69), some (ZI r139)] [ZI 1] 41 σ180
                        exact zr_zret (pc := 191) hV dX12_readOrder_191 rfl rfl (by omega) ⟨_, rfl, ⟨by decide, by decide⟩, hσ180, hFσ180, (by omega), (show (1 : Int) = 1 → zx_A σ180 o ∧ zx_B σ180 o ∧ 1 ≤ σ180 7 o from (fun _ => ⟨zx_A_fr (fun i => by rw [hfσ180 5 i (by omega), eσ176, zq_up_ne (by omega), eσ168, zq_up_ne (by omega), hfσ139 5 i (by omega), hfσ130 5 i (by omega)]) (fun i => by rw [hfσ180 6 i (by omega), eσ176, zq_up_ne (by omega), eσ168, zq_up_ne (by omega), hfσ139 6 i (by omega), hfσ130 6 i (by omega)]) hi69_2, zx_B_fr (fun i => by rw [hfσ180 2 i (by omega), eσ176, zq_up_ne (by omega), eσ168, zq_up_ne (by omega), hfσ139 2 i (by omega), hfσ130 2 i (by omega)]) (by rw [hfσ180 0 2 (by omega), eσ176, zq_up_ne (by omega), eσ168, zq_up_ne (by omega), hfσ139 0 2 (by omega), hfσ130 0 2 (by omega)]) hi69_3, by rw [hfσ180 7 o (by omega), eσ176, zq_up_ne (by omega), eσ168, zq_up_same]; omega⟩))⟩
                    · show V 157 [some (ZR 0), some (ZI o), some (ZI x2_69), some (ZI r139)] [] 41 σ139
                      refine zr_iconst (pc := 157) hV 0 dX12_readOrder_157 rfl ?_
                      exact zr_zret (pc := 158) hV dX12_readOrder_158 rfl rfl (by omega) ⟨_, rfl, ⟨by decide, by decide⟩, hσ139, hFσ139, (by omega), (show (0 : Int) = 1 → zx_A σ139 o ∧ zx_B σ139 o ∧ 1 ≤ σ139 7 o from (fun h => absurd h (by omega)))⟩
                  · show V 136 [some (ZR 0), some (ZI o), some (ZI x2_69), none] [] 41 σ130
                    refine zr_iconst (pc := 136) hV 0 dX12_readOrder_136 rfl ?_
                    exact zr_zret (pc := 137) hV dX12_readOrder_137 rfl rfl (by omega) ⟨_, rfl, ⟨by decide, by decide⟩, hσ130, hFσ130, (by omega), (show (0 : Int) = 1 → zx_A σ130 o ∧ zx_B σ130 o ∧ 1 ≤ σ130 7 o from (fun h => absurd h (by omega)))⟩
                · show V 73 [some (ZR 0), some (ZI o), some (ZI x2_69), none] [] 41 σ_69
                  refine zr_aload_n (pc := 73) hV dX12_readOrder_73 rfl rfl ?_
                  refine zr_iload_n (pc := 74) hV dX12_readOrder_74 rfl rfl ?_
                  refine zr_aload_n (pc := 75) hV dX12_readOrder_75 rfl rfl ?_
                  refine zr_getR (pc := 76) hV 8 5 dX12_readOrder_76 fX12_32 rfl rfl rfl (by decide) (zx_g8 hσ_69) (by omega) ?_
                  refine zr_iload_n (pc := 79) hV dX12_readOrder_79 rfl rfl ?_
                  refine zr_iald (pc := 80) hV dX12_readOrder_80 rfl (by decide) rfl (by omega) ?_
                  have t35 := zx_ga5 hσ_69 o
                  refine zr_callVi (pc := 81) hV [ZI o, ZI (σ_69 5 o)] (st := []) (c_X12_readAct (σ := σ_69) hσ_69 o (σ_69 5 o) (by omega) (by omega)) dX12_readOrder_81 mX12_257 rfl (by decide) (by decide) (Nat.le_of_ble_eq_true rfl) (Nat.le_refl _) (fun r81 σ81 hr81 pσ81 => ?_)
                  obtain ⟨hσ81, hfσ81, pσ81⟩ := pσ81
                  have hFσ81 : ∀ a i : Int, (¬ (a = 0 ∧ i = 15) ∧ ¬ (a = 0 ∧ i = 16) ∧ ¬ (a = 0 ∧ i = 17) ∧ ¬ (a = 1 ∧ i = o) ∧ ¬ (a = 2 ∧ 12 * o ≤ i ∧ i < 12 * o + 12) ∧ ¬ (a = 3 ∧ i = o) ∧ ¬ (a = 4 ∧ i = o) ∧ ¬ (a = 5 ∧ i = o) ∧ ¬ (a = 6 ∧ 18 * o ≤ i ∧ i < 18 * o + 18) ∧ ¬ (a = 7 ∧ i = o)) → σ81 a i = σ a i := fun a i h => (hfσ81 a i ⟨h.1, h.2.2.1, (fun q => h.2.2.2.2.2.2.2.2.1 ⟨q.1, by omega⟩)⟩).trans (hFσ_69 a i h)
                  refine zr_if_ne (pc := 84) hV 89 dX12_readOrder_84 (by decide) (by omega) (fun c36 => ?_) (fun c36 => ?_)
                  · show V 89 [some (ZR 0), some (ZI o), some (ZI x2_69), none] [] 41 σ81
                    refine zr_aload_n (pc := 89) hV dX12_readOrder_89 rfl rfl ?_
                    refine zr_getR (pc := 90) hV 8 5 dX12_readOrder_90 fX12_32 rfl rfl rfl (by decide) (zx_g8 hσ81) (by omega) ?_
                    refine zr_iload_n (pc := 93) hV dX12_readOrder_93 rfl rfl ?_
                    refine zr_dup2 (pc := 94) hV dX12_readOrder_94 (fun _ => rfl) (fun _ => rfl) ?_
                    refine zr_iald (pc := 95) hV dX12_readOrder_95 rfl (by decide) rfl (by omega) ?_
                    have t37 := zx_ga5 hσ81 o
                    have t38 : σ81 5 o = σ_69 5 o := hfσ81 _ _ (by omega)
                    refine zr_iconst (pc := 96) hV 1 dX12_readOrder_96 rfl ?_
                    refine zr_iadd (pc := 97) hV dX12_readOrder_97 ?_
                    refine zr_iast (pc := 98) hV dX12_readOrder_98 rfl (by decide) rfl (by omega) (fun σ98 eσ98 => ?_)
                    have hσ98 : zx_T σ98 := zx_ua5 eσ98 hσ81 (by omega)
                    have hFσ98 : ∀ a i : Int, (¬ (a = 0 ∧ i = 15) ∧ ¬ (a = 0 ∧ i = 16) ∧ ¬ (a = 0 ∧ i = 17) ∧ ¬ (a = 1 ∧ i = o) ∧ ¬ (a = 2 ∧ 12 * o ≤ i ∧ i < 12 * o + 12) ∧ ¬ (a = 3 ∧ i = o) ∧ ¬ (a = 4 ∧ i = o) ∧ ¬ (a = 5 ∧ i = o) ∧ ¬ (a = 6 ∧ 18 * o ≤ i ∧ i < 18 * o + 18) ∧ ¬ (a = 7 ∧ i = o)) → σ98 a i = σ a i := fun a i h => by rw [eσ98, zq_up_ne (fun q => h.2.2.2.2.2.2.2.1 ⟨q.1, by omega⟩)]; exact hFσ81 a i h
                    have a98 : σ98 5 o = σ_69 5 o + 1 := by rw [eσ98, zq_up_same]; rw [hfσ81 5 o (by omega)]
                    have za98 : zx_A σ98 o := zx_A_step hi69_2 rfl a98 (fun n h1 h2 => by rw [eσ98, zq_up_ne (by omega)]; exact hfσ81 6 _ (by omega)) (by rw [eσ98, zq_up_ne (by omega)]; exact pσ81.2 (by omega))
                    have zb98 : zx_B σ98 o := zx_B_fr (fun i => by rw [eσ98, zq_up_ne (by omega)]; exact hfσ81 2 i (by omega)) (by rw [eσ98, zq_up_ne (by omega)]; exact hfσ81 0 2 (by omega)) hi69_3
                    refine zr_aload_n (pc := 99) hV dX12_readOrder_99 rfl rfl ?_
                    refine zr_getR (pc := 100) hV 8 5 dX12_readOrder_100 fX12_32 rfl rfl rfl (by decide) (zx_g8 hσ98) (by omega) ?_
                    refine zr_iload_n (pc := 103) hV dX12_readOrder_103 rfl rfl ?_
                    refine zr_iald (pc := 104) hV dX12_readOrder_104 rfl (by decide) rfl (by omega) ?_
                    have t39 := zx_ga5 hσ98 o
                    have t40 : σ98 5 o = (σ81 5 o) + 1 := by rw [eσ98]; exact zq_up_same _ _ _ _
                    refine zr_iconst (pc := 105) hV 3 dX12_readOrder_105 rfl ?_
                    refine zr_icmp_ge (pc := 106) hV 122 dX12_readOrder_106 (by decide) (by omega) ⟨by decide, by decide⟩ (fun c41 => ?_) (fun c41 => ?_)
                    · show V 122 [some (ZR 0), some (ZI o), some (ZI x2_69), none] [] 41 σ98
                      refine zr_iconst (pc := 122) hV 0 dX12_readOrder_122 rfl ?_
                      show V 123 [some (ZR 0), some (ZI o), some (ZI x2_69), none] [ZI 0] 41 σ98
                      refine zr_istore_n (pc := 123) hV [some (ZR 0), some (ZI o), some (ZI 0), none] dX12_readOrder_123 rfl (by decide) rfl rfl ?_
                      have zA := za98
                      have zB := zb98
                      refine zr_goto (pc := 124) hV 69 dX12_readOrder_124 (by decide) ?_
                      exact ih69 0 σ98 (by omega) hσ98 hFσ98 (by omega) (by omega) zA zB (by omega)
                    · show V 109 [some (ZR 0), some (ZI o), some (ZI x2_69), none] [] 41 σ98
                      refine zr_aload_n (pc := 109) hV dX12_readOrder_109 rfl rfl ?_
                      refine zr_bipush (pc := 110) hV 44 dX12_readOrder_110 (by decide) ?_
                      refine zr_callVi (pc := 112) hV [ZI 44] (st := []) (c_X12_takes (σ := σ98) hσ98 44 (by omega)) dX12_readOrder_112 mX12_234 rfl (by decide) (by decide) (Nat.le_of_ble_eq_true rfl) (Nat.le_refl _) (fun r112 σ112 hr112 pσ112 => ?_)
                      obtain ⟨hσ112, hfσ112, pσ112⟩ := pσ112
                      have hFσ112 : ∀ a i : Int, (¬ (a = 0 ∧ i = 15) ∧ ¬ (a = 0 ∧ i = 16) ∧ ¬ (a = 0 ∧ i = 17) ∧ ¬ (a = 1 ∧ i = o) ∧ ¬ (a = 2 ∧ 12 * o ≤ i ∧ i < 12 * o + 12) ∧ ¬ (a = 3 ∧ i = o) ∧ ¬ (a = 4 ∧ i = o) ∧ ¬ (a = 5 ∧ i = o) ∧ ¬ (a = 6 ∧ 18 * o ≤ i ∧ i < 18 * o + 18) ∧ ¬ (a = 7 ∧ i = o)) → σ112 a i = σ a i := fun a i h => (hfσ112 a i h.1).trans (hFσ98 a i h)
                      have t42 := zx_g15 hσ98
                      have t43 : σ98 0 15 = σ81 0 15 := by rw [eσ98]; exact zq_up_ne (by omega)
                      have t44 := zx_g15 hσ112
                      refine zr_if_eq (pc := 115) hV 122 dX12_readOrder_115 (by decide) (by omega) (fun c45 => ?_) (fun c45 => ?_)
                      · show V 122 [some (ZR 0), some (ZI o), some (ZI x2_69), none] [] 41 σ112
                        refine zr_iconst (pc := 122) hV 0 dX12_readOrder_122 rfl ?_
                        show V 123 [some (ZR 0), some (ZI o), some (ZI x2_69), none] [ZI 0] 41 σ112
                        refine zr_istore_n (pc := 123) hV [some (ZR 0), some (ZI o), some (ZI 0), none] dX12_readOrder_123 rfl (by decide) rfl rfl ?_
                        have a112 : σ112 5 o = σ98 5 o := hfσ112 5 o (by omega)
                        have zA : zx_A σ112 o := zx_A_fr (fun i => hfσ112 5 i (by omega)) (fun i => hfσ112 6 i (by omega)) za98
                        have zB : zx_B σ112 o := zx_B_fr (fun i => hfσ112 2 i (by omega)) (hfσ112 0 2 (by omega)) zb98
                        refine zr_goto (pc := 124) hV 69 dX12_readOrder_124 (by decide) ?_
                        exact ih69 0 σ112 (by omega) hσ112 hFσ112 (by omega) (by omega) zA zB (by omega)
                      · show V 118 [some (ZR 0), some (ZI o), some (ZI x2_69), none] [] 41 σ112
                        refine zr_iconst (pc := 118) hV 1 dX12_readOrder_118 rfl ?_
                        refine zr_goto (pc := 119) hV 123 dX12_readOrder_119 (by decide) ?_
                        show V 123 [some (ZR 0), some (ZI o), some (ZI x2_69), none] [ZI 1] 41 σ112
                        refine zr_istore_n (pc := 123) hV [some (ZR 0), some (ZI o), some (ZI 1), none] dX12_readOrder_123 rfl (by decide) rfl rfl ?_
                        have a112 : σ112 5 o = σ98 5 o := hfσ112 5 o (by omega)
                        have zA : zx_A σ112 o := zx_A_fr (fun i => hfσ112 5 i (by omega)) (fun i => hfσ112 6 i (by omega)) za98
                        have zB : zx_B σ112 o := zx_B_fr (fun i => hfσ112 2 i (by omega)) (hfσ112 0 2 (by omega)) zb98
                        refine zr_goto (pc := 124) hV 69 dX12_readOrder_124 (by decide) ?_
                        exact ih69 1 σ112 (by omega) hσ112 hFσ112 (by omega) (by omega) zA zB (by omega)
                  · show V 87 [some (ZR 0), some (ZI o), some (ZI x2_69), none] [] 41 σ81
                    refine zr_iconst (pc := 87) hV 0 dX12_readOrder_87 rfl ?_
                    exact zr_zret (pc := 88) hV dX12_readOrder_88 rfl rfl (by omega) ⟨_, rfl, ⟨by decide, by decide⟩, hσ81, hFσ81, (by omega), (show (0 : Int) = 1 → zx_A σ81 o ∧ zx_B σ81 o ∧ 1 ≤ σ81 7 o from (fun h => absurd h (by omega)))⟩
            exact L69 (3 - σ66 5 o + 1 : Int).toNat 1 σ66 (by omega) hσ66 hFσ66 (by omega) (by omega) (fun n h1 h2 => absurd h2 (by rw [eσ66, zq_up_same]; omega)) B66 (by omega)
          · show V 58 [some (ZR 0), some (ZI o), none, none] [] 41 σ52
            refine zr_iconst (pc := 58) hV 0 dX12_readOrder_58 rfl ?_
            exact zr_zret (pc := 59) hV dX12_readOrder_59 rfl rfl (by omega) ⟨_, rfl, ⟨by decide, by decide⟩, hσ52, hFσ52, (by omega), (show (0 : Int) = 1 → zx_A σ52 o ∧ zx_B σ52 o ∧ 1 ≤ σ52 7 o from (fun h => absurd h (by omega)))⟩
set_option maxHeartbeats 800000 in
theorem c_X12_order2 {σ : zq_S} (hσ : zx_T σ)  (Mσ : zx_M σ) (Oσ : zx_O σ) (Tσ : zx_TK σ) : zq_C zx_w yX12_order cX12_order 3 (some .int) 6 143 41 41 [ZR 0] σ (zq_pi (fun r τ => zx_T τ ∧ (∀ a i : Int, (¬ (a = 0 ∧ i = 14) ∧ ¬ (a = 0 ∧ i = 15) ∧ ¬ (a = 0 ∧ i = 16) ∧ ¬ (a = 0 ∧ i = 17) ∧ ¬ (a = 0 ∧ i = 18) ∧ ¬ (a = 0 ∧ i = 3) ∧ ¬ (a = 0 ∧ i = 30) ∧ ¬ (a = 1 ∧ i = (σ 0 3)) ∧ ¬ (a = 2 ∧ 12 * (σ 0 3) ≤ i ∧ i < 12 * (σ 0 3) + 12) ∧ ¬ (a = 3 ∧ i = (σ 0 3)) ∧ ¬ (a = 4 ∧ i = (σ 0 3)) ∧ ¬ (a = 5 ∧ i = (σ 0 3)) ∧ ¬ (a = 6 ∧ 18 * (σ 0 3) ≤ i ∧ i < 18 * (σ 0 3) + 18) ∧ ¬ (a = 7 ∧ i = (σ 0 3)) ∧ a ≠ 8 ∧ a ≠ 9) → τ a i = σ a i) ∧ (True) ∧ zx_M τ ∧ zx_O τ ∧ zx_TK τ)) := by
  refine zq_C_of (by decide) (Nat.le_refl _) (Nat.le_of_ble_eq_true rfl) [some (ZR 0), none, none] rfl (fun V hV => ?_)
  show V 0 [some (ZR 0), none, none] [] 41 σ
  refine zr_aload_n (pc := 0) hV dX12_order_0 rfl rfl ?_
  refine zr_aload_n (pc := 1) hV dX12_order_1 rfl rfl ?_
  refine zr_getI (pc := 2) hV 3 dX12_order_2 fX12_150 rfl rfl rfl (by decide) ?_
  have t1 := zx_g3 hσ
  refine zr_callVi (pc := 5) hV [ZI (σ 0 3)] (st := []) (c_X12_readOrder2 (σ := σ) hσ (σ 0 3) (by omega)) dX12_order_5 mX12_262 rfl (by decide) (by decide) (Nat.le_of_ble_eq_true rfl) (Nat.le_refl _) (fun r5 σ5 hr5 pσ5 => ?_)
  obtain ⟨hσ5, hfσ5, pσ5, wσ5⟩ := pσ5
  have Mσ5 : zx_M σ5 := zx_M_fr (fun i => hfσ5 18 i (by omega)) (hfσ5 0 30 (by omega)) (hfσ5 0 2 (by omega)) (hfσ5 0 3 (by omega)) Mσ
  have Oσ5 : zx_O σ5 := zx_O_old hσ (hfσ5 0 2 (by omega)) (hfσ5 0 3 (by omega)) (fun i h => hfσ5 2 i (by omega)) (fun i h => hfσ5 5 i (by omega)) (fun i h => hfσ5 6 i (by omega)) Oσ
  have Tσ5 : zx_TK σ5 := zx_TK_old (hfσ5 0 3 (by omega)) (fun i h => hfσ5 7 i (by omega)) Tσ
  have hFσ5 : ∀ a i : Int, (¬ (a = 0 ∧ i = 14) ∧ ¬ (a = 0 ∧ i = 15) ∧ ¬ (a = 0 ∧ i = 16) ∧ ¬ (a = 0 ∧ i = 17) ∧ ¬ (a = 0 ∧ i = 18) ∧ ¬ (a = 0 ∧ i = 3) ∧ ¬ (a = 0 ∧ i = 30) ∧ ¬ (a = 1 ∧ i = (σ 0 3)) ∧ ¬ (a = 2 ∧ 12 * (σ 0 3) ≤ i ∧ i < 12 * (σ 0 3) + 12) ∧ ¬ (a = 3 ∧ i = (σ 0 3)) ∧ ¬ (a = 4 ∧ i = (σ 0 3)) ∧ ¬ (a = 5 ∧ i = (σ 0 3)) ∧ ¬ (a = 6 ∧ 18 * (σ 0 3) ≤ i ∧ i < 18 * (σ 0 3) + 18) ∧ ¬ (a = 7 ∧ i = (σ 0 3)) ∧ a ≠ 8 ∧ a ≠ 9) → σ5 a i = σ a i := fun a i h => (hfσ5 a i ⟨h.2.1, h.2.2.1, h.2.2.2.1, (fun q => h.2.2.2.2.2.2.2.1 ⟨q.1, by omega⟩), (fun q => h.2.2.2.2.2.2.2.2.1 ⟨q.1, by omega⟩), (fun q => h.2.2.2.2.2.2.2.2.2.1 ⟨q.1, by omega⟩), (fun q => h.2.2.2.2.2.2.2.2.2.2.1 ⟨q.1, by omega⟩), (fun q => h.2.2.2.2.2.2.2.2.2.2.2.1 ⟨q.1, by omega⟩), (fun q => h.2.2.2.2.2.2.2.2.2.2.2.2.1 ⟨q.1, by omega⟩), (fun q => h.2.2.2.2.2.2.2.2.2.2.2.2.2.1 ⟨q.1, by omega⟩)⟩)
  refine zr_istore_n (pc := 8) hV [some (ZR 0), some (ZI r5), none] dX12_order_8 rfl (by decide) rfl rfl ?_
  refine zr_aload_n (pc := 9) hV dX12_order_9 rfl rfl ?_
  refine zr_iconst (pc := 10) hV 0 dX12_order_10 rfl ?_
  refine zr_putI (pc := 11) hV 14 dX12_order_11 fX12_197 rfl rfl rfl rfl (by decide) (fun σ11 eσ11 => ?_)
  have hσ11 : zx_T σ11 := zx_u14 eσ11 hσ5 (by omega)
  have hFσ11 : ∀ a i : Int, (¬ (a = 0 ∧ i = 14) ∧ ¬ (a = 0 ∧ i = 15) ∧ ¬ (a = 0 ∧ i = 16) ∧ ¬ (a = 0 ∧ i = 17) ∧ ¬ (a = 0 ∧ i = 18) ∧ ¬ (a = 0 ∧ i = 3) ∧ ¬ (a = 0 ∧ i = 30) ∧ ¬ (a = 1 ∧ i = (σ 0 3)) ∧ ¬ (a = 2 ∧ 12 * (σ 0 3) ≤ i ∧ i < 12 * (σ 0 3) + 12) ∧ ¬ (a = 3 ∧ i = (σ 0 3)) ∧ ¬ (a = 4 ∧ i = (σ 0 3)) ∧ ¬ (a = 5 ∧ i = (σ 0 3)) ∧ ¬ (a = 6 ∧ 18 * (σ 0 3) ≤ i ∧ i < 18 * (σ 0 3) + 18) ∧ ¬ (a = 7 ∧ i = (σ 0 3)) ∧ a ≠ 8 ∧ a ≠ 9) → σ11 a i = σ a i := fun a i h => by rw [eσ11, zq_up_ne h.1]; exact hFσ5 a i h
  have Mσ11 : zx_M σ11 := zx_M_fr (fun i => by rw [eσ11]; exact zq_up_ne (by omega)) (by rw [eσ11]; exact zq_up_ne (by omega)) (by rw [eσ11]; exact zq_up_ne (by omega)) (by rw [eσ11]; exact zq_up_ne (by omega)) Mσ5
  have Oσ11 : zx_O σ11 := zx_O_fr (fun i => by rw [eσ11]; exact zq_up_ne (by omega)) (fun i => by rw [eσ11]; exact zq_up_ne (by omega)) (fun i => by rw [eσ11]; exact zq_up_ne (by omega)) (by rw [eσ11]; exact zq_up_ne (by omega)) (by rw [eσ11]; exact zq_up_ne (by omega)) Oσ5
  have Tσ11 : zx_TK σ11 := zx_TK_fr (fun i => by rw [eσ11]; exact zq_up_ne (by omega)) (by rw [eσ11]; exact zq_up_ne (by omega)) Tσ5
  refine zr_iload_n (pc := 14) hV dX12_order_14 rfl rfl ?_
  refine zr_if_ne (pc := 15) hV 26 dX12_order_15 (by decide) (by omega) (fun c2 => ?_) (fun c2 => ?_)
  · show V 26 [some (ZR 0), some (ZI r5), none] [] 41 σ11
    refine zr_aload_n (pc := 26) hV dX12_order_26 rfl rfl ?_
    refine zr_aload_n (pc := 27) hV dX12_order_27 rfl rfl ?_
    refine zr_getI (pc := 28) hV 3 dX12_order_28 fX12_150 rfl rfl rfl (by decide) ?_
    have t3 := zx_g3 hσ11
    have t4 : σ11 0 3 = σ5 0 3 := by rw [eσ11]; exact zq_up_ne (by omega)
    have t5 : σ5 0 3 = σ 0 3 := hfσ5 _ _ (by omega)
    refine zr_callVp (pc := 31) hV [ZI (σ11 0 3)] (st := []) (c_X12_sharedWith (σ := σ11) hσ11 (σ11 0 3) (by omega)) dX12_order_31 mX12_265 rfl (by decide) (by decide) (Nat.le_of_ble_eq_true rfl) (Nat.le_refl _) (fun r31 hr31 pr31 => ?_)
    refine zr_istore_n (pc := 34) hV [some (ZR 0), some (ZI r5), some (ZI r31)] dX12_order_34 rfl (by decide) rfl rfl ?_
    refine zr_iload_n (pc := 35) hV dX12_order_35 rfl rfl ?_
    refine zr_if_lt (pc := 36) hV 47 dX12_order_36 (by decide) (by omega) (fun c6 => ?_) (fun c6 => ?_)
    · show V 47 [some (ZR 0), some (ZI r5), some (ZI r31)] [] 41 σ11
      refine zr_aload_n (pc := 47) hV dX12_order_47 rfl rfl ?_
      have z3 : σ11 0 3 = σ 0 3 := by rw [eσ11, zq_up_ne (by omega)]; exact hfσ5 0 3 (by omega)
      have t7 := zx_g3 hσ11
      have t8 : σ11 0 3 = σ5 0 3 := by rw [eσ11]; exact zq_up_ne (by omega)
      have t9 : σ5 0 3 = σ 0 3 := hfσ5 _ _ (by omega)
      have t10 := zx_g3 hσ11
      have t11 : σ11 0 3 = σ5 0 3 := by rw [eσ11]; exact zq_up_ne (by omega)
      have t12 : σ5 0 3 = σ 0 3 := hfσ5 _ _ (by omega)
      have t13 := zx_g3 hσ11
      have t14 : σ11 0 3 = σ5 0 3 := by rw [eσ11]; exact zq_up_ne (by omega)
      have t15 : σ5 0 3 = σ 0 3 := hfσ5 _ _ (by omega)
      refine zr_callVi (pc := 48) hV [] (st := []) (c_X12_addOrder2 (σ := σ11) hσ11 (by rw [z3]; exact zx_A_fr (fun i => by rw [eσ11]; exact zq_up_ne (by omega)) (fun i => by rw [eσ11]; exact zq_up_ne (by omega)) (wσ5 (by omega)).1) (by rw [z3]; exact zx_B_fr (fun i => by rw [eσ11]; exact zq_up_ne (by omega)) (by rw [eσ11]; exact zq_up_ne (by omega)) (wσ5 (by omega)).2.1) (by rw [z3, eσ11, zq_up_ne (by omega)]; exact (wσ5 (by omega)).2.2) Mσ11 Oσ11 Tσ11) dX12_order_48 mX12_268 rfl (by decide) (by decide) (Nat.le_of_ble_eq_true rfl) (Nat.le_refl _) (fun r48 σ48 hr48 pσ48 => ?_)
      obtain ⟨hσ48, hfσ48, pσ48, Mσ48, Oσ48, Tσ48⟩ := pσ48
      have hFσ48 : ∀ a i : Int, (¬ (a = 0 ∧ i = 14) ∧ ¬ (a = 0 ∧ i = 15) ∧ ¬ (a = 0 ∧ i = 16) ∧ ¬ (a = 0 ∧ i = 17) ∧ ¬ (a = 0 ∧ i = 18) ∧ ¬ (a = 0 ∧ i = 3) ∧ ¬ (a = 0 ∧ i = 30) ∧ ¬ (a = 1 ∧ i = (σ 0 3)) ∧ ¬ (a = 2 ∧ 12 * (σ 0 3) ≤ i ∧ i < 12 * (σ 0 3) + 12) ∧ ¬ (a = 3 ∧ i = (σ 0 3)) ∧ ¬ (a = 4 ∧ i = (σ 0 3)) ∧ ¬ (a = 5 ∧ i = (σ 0 3)) ∧ ¬ (a = 6 ∧ 18 * (σ 0 3) ≤ i ∧ i < 18 * (σ 0 3) + 18) ∧ ¬ (a = 7 ∧ i = (σ 0 3)) ∧ a ≠ 8 ∧ a ≠ 9) → σ48 a i = σ a i := fun a i h => (hfσ48 a i ⟨h.2.2.2.2.2.1, h.2.2.2.2.2.2.1, h.2.2.2.2.2.2.2.2.2.2.2.2.2.2.1, h.2.2.2.2.2.2.2.2.2.2.2.2.2.2.2⟩).trans (hFσ11 a i h)
      exact zr_iret (pc := 51) hV dX12_order_51 rfl rfl ⟨_, rfl, (by omega), hσ48, hFσ48, trivial, Mσ48, Oσ48, Tσ48⟩
    · show V 39 [some (ZR 0), some (ZI r5), some (ZI r31)] [] 41 σ11
      refine zr_aload_n (pc := 39) hV dX12_order_39 rfl rfl ?_
      refine zr_iload_n (pc := 40) hV dX12_order_40 rfl rfl ?_
      refine zr_putI (pc := 41) hV 18 dX12_order_41 fX12_157 rfl rfl rfl rfl (by decide) (fun σ41 eσ41 => ?_)
      have hσ41 : zx_T σ41 := zx_u18 eσ41 hσ11 (by omega)
      have hFσ41 : ∀ a i : Int, (¬ (a = 0 ∧ i = 14) ∧ ¬ (a = 0 ∧ i = 15) ∧ ¬ (a = 0 ∧ i = 16) ∧ ¬ (a = 0 ∧ i = 17) ∧ ¬ (a = 0 ∧ i = 18) ∧ ¬ (a = 0 ∧ i = 3) ∧ ¬ (a = 0 ∧ i = 30) ∧ ¬ (a = 1 ∧ i = (σ 0 3)) ∧ ¬ (a = 2 ∧ 12 * (σ 0 3) ≤ i ∧ i < 12 * (σ 0 3) + 12) ∧ ¬ (a = 3 ∧ i = (σ 0 3)) ∧ ¬ (a = 4 ∧ i = (σ 0 3)) ∧ ¬ (a = 5 ∧ i = (σ 0 3)) ∧ ¬ (a = 6 ∧ 18 * (σ 0 3) ≤ i ∧ i < 18 * (σ 0 3) + 18) ∧ ¬ (a = 7 ∧ i = (σ 0 3)) ∧ a ≠ 8 ∧ a ≠ 9) → σ41 a i = σ a i := fun a i h => by rw [eσ41, zq_up_ne h.2.2.2.2.1]; exact hFσ11 a i h
      have Mσ41 : zx_M σ41 := zx_M_fr (fun i => by rw [eσ41]; exact zq_up_ne (by omega)) (by rw [eσ41]; exact zq_up_ne (by omega)) (by rw [eσ41]; exact zq_up_ne (by omega)) (by rw [eσ41]; exact zq_up_ne (by omega)) Mσ11
      have Oσ41 : zx_O σ41 := zx_O_fr (fun i => by rw [eσ41]; exact zq_up_ne (by omega)) (fun i => by rw [eσ41]; exact zq_up_ne (by omega)) (fun i => by rw [eσ41]; exact zq_up_ne (by omega)) (by rw [eσ41]; exact zq_up_ne (by omega)) (by rw [eσ41]; exact zq_up_ne (by omega)) Oσ11
      have Tσ41 : zx_TK σ41 := zx_TK_fr (fun i => by rw [eσ41]; exact zq_up_ne (by omega)) (by rw [eσ41]; exact zq_up_ne (by omega)) Tσ11
      refine zr_bipush (pc := 44) hV (-2) dX12_order_44 (by decide) ?_
      exact zr_iret (pc := 46) hV dX12_order_46 rfl rfl ⟨_, rfl, ⟨by decide, by decide⟩, hσ41, hFσ41, trivial, Mσ41, Oσ41, Tσ41⟩
  · show V 18 [some (ZR 0), some (ZI r5), none] [] 41 σ11
    refine zr_bipush (pc := 18) hV (-20) dX12_order_18 (by decide) ?_
    refine zr_aload_n (pc := 20) hV dX12_order_20 rfl rfl ?_
    refine zr_getI (pc := 21) hV 15 dX12_order_21 fX12_200 rfl rfl rfl (by decide) ?_
    have t16 := zx_g15 hσ11
    have t17 : σ11 0 15 = σ5 0 15 := by rw [eσ11]; exact zq_up_ne (by omega)
    refine zr_isub (pc := 24) hV dX12_order_24 ?_
    exact zr_iret (pc := 25) hV dX12_order_25 rfl rfl ⟨_, rfl, (by omega), hσ11, hFσ11, trivial, Mσ11, Oσ11, Tσ11⟩
set_option maxHeartbeats 800000 in
theorem c_X12_roomFor2 {σ : zq_S} (hσ : zx_T σ) (a c : Int) (q0 : 0 ≤ a ∧ a < σ 0 3) (q1 : 0 ≤ c ∧ c < σ 0 3) (Mσ : zx_M σ) (Oσ : zx_O σ) : zq_C zx_w yX12_roomFor cX12_roomFor 11 (some .int) 3 69 41 41 [ZR 0, ZI a, ZI c] σ (zq_pi (fun r τ => zx_T τ ∧ (∀ a i : Int, (¬ (a = 0 ∧ i = 30) ∧ ¬ (a = 0 ∧ i = 61) ∧ a ≠ 18) → τ a i = σ a i) ∧ (-2 ≤ r ∧ r ≤ 4095) ∧ zq_hid (0 ≤ r → σ 5 a + σ 5 c ≤ 3 ∧ σ 7 a + σ 7 c ≤ 10 ∧ τ 0 61 = zx_rb (zq_or (zx_fm σ a 4) (zx_fm σ c 4)) (if 0 < zx_cnt σ a 3 (σ 0 2) then zx_cnt σ a 3 (σ 0 2) else zx_cnt σ c 3 (σ 0 2)) (σ 0 1) ∧ 0 ≤ τ 0 61 ∧ τ 0 61 < σ 0 2) ∧ zx_M τ ∧ zx_O τ)) := by
  refine zq_C_of (by decide) (Nat.le_refl _) (Nat.le_of_ble_eq_true rfl) [some (ZR 0), some (ZI a), some (ZI c), none, none, none, none, none, none, none, none] rfl (fun V hV => ?_)
  have z3 := zx_g3 hσ
  show V 0 [some (ZR 0), some (ZI a), some (ZI c), none, none, none, none, none, none, none, none] [] 41 σ
  refine zr_aload_n (pc := 0) hV dX12_roomFor_0 rfl rfl ?_
  refine zr_iload_n (pc := 1) hV dX12_roomFor_1 rfl rfl ?_
  refine zr_callVp (pc := 2) hV [ZI a] (st := []) (c_X12_namesOf (σ := σ) hσ a (by omega) (Oσ a (by omega) (by omega)).1) dX12_roomFor_2 mX12_332 rfl (by decide) (by decide) (Nat.le_of_ble_eq_true rfl) (Nat.le_refl _) (fun r2 hr2 pr2 => ?_)
  refine zr_aload_n (pc := 5) hV dX12_roomFor_5 rfl rfl ?_
  refine zr_iload_n (pc := 6) hV dX12_roomFor_6 rfl rfl ?_
  refine zr_callVp (pc := 7) hV [ZI c] (st := [ZI r2]) (c_X12_namesOf (σ := σ) hσ c (by omega) (Oσ c (by omega) (by omega)).1) dX12_roomFor_7 mX12_332 rfl (by decide) (by decide) (Nat.le_of_ble_eq_true rfl) (Nat.le_refl _) (fun r7 hr7 pr7 => ?_)
  refine zr_ior (pc := 10) hV dX12_roomFor_10 ?_
  have t1 := zq_or_in r2 r7
  refine zr_istore_n (pc := 11) hV [some (ZR 0), some (ZI a), some (ZI c), some (ZI (zq_or r2 r7)), none, none, none, none, none, none, none] dX12_roomFor_11 rfl (by decide) rfl rfl ?_
  refine zr_aload_n (pc := 12) hV dX12_roomFor_12 rfl rfl ?_
  refine zr_iload_n (pc := 13) hV dX12_roomFor_13 rfl rfl ?_
  refine zr_iconst (pc := 14) hV 3 dX12_roomFor_14 rfl ?_
  refine zr_callVp (pc := 15) hV [ZI a, ZI 3] (st := []) (c_X12_fieldBits (σ := σ) hσ a 3 (by omega) (by omega)) dX12_roomFor_15 mX12_184 rfl (by decide) (by decide) (Nat.le_of_ble_eq_true rfl) (Nat.le_refl _) (fun r15 hr15 pr15 => ?_)
  have t2 := zx_g2 hσ
  refine zr_istore (pc := 18) hV [some (ZR 0), some (ZI a), some (ZI c), some (ZI (zq_or r2 r7)), some (ZI r15), none, none, none, none, none, none] dX12_roomFor_18 (by decide) rfl rfl ?_
  refine zr_aload_n (pc := 20) hV dX12_roomFor_20 rfl rfl ?_
  refine zr_iload_n (pc := 21) hV dX12_roomFor_21 rfl rfl ?_
  refine zr_iconst (pc := 22) hV 3 dX12_roomFor_22 rfl ?_
  refine zr_callVp (pc := 23) hV [ZI c, ZI 3] (st := []) (c_X12_fieldBits (σ := σ) hσ c 3 (by omega) (by omega)) dX12_roomFor_23 mX12_184 rfl (by decide) (by decide) (Nat.le_of_ble_eq_true rfl) (Nat.le_refl _) (fun r23 hr23 pr23 => ?_)
  have t3 := zx_g2 hσ
  refine zr_istore (pc := 26) hV [some (ZR 0), some (ZI a), some (ZI c), some (ZI (zq_or r2 r7)), some (ZI r15), some (ZI r23), none, none, none, none, none] dX12_roomFor_26 (by decide) rfl rfl ?_
  refine zr_aload_n (pc := 28) hV dX12_roomFor_28 rfl rfl ?_
  refine zr_getR (pc := 29) hV 6 3 dX12_roomFor_29 fX12_26 rfl rfl rfl (by decide) (zx_g6 hσ) (by omega) ?_
  refine zr_iload_n (pc := 32) hV dX12_roomFor_32 rfl rfl ?_
  refine zr_iald (pc := 33) hV dX12_roomFor_33 rfl (by decide) rfl (by omega) ?_
  have t4 := zx_ga3 hσ a
  have J110 : ∀ (v0_110 : Int), (0 ≤ v0_110 ∧ v0_110 ≤ 1) → (zq_hid (v0_110 = 1 → σ 5 a + σ 5 c ≤ 3 ∧ σ 7 a + σ 7 c ≤ 10)) → V 110 [some (ZR 0), some (ZI a), some (ZI c), none, some (ZI r15), some (ZI r23), none, none, none, none, none] [ZI v0_110] 41 σ := by
    intro v0_110 hv0_110 hi110_0
    show V 110 [some (ZR 0), some (ZI a), some (ZI c), none, some (ZI r15), some (ZI r23), none, none, none, none, none] [ZI v0_110] 41 σ
    refine zr_istore (pc := 110) hV [some (ZR 0), some (ZI a), some (ZI c), none, some (ZI r15), some (ZI r23), some (ZI v0_110), none, none, none, none] dX12_roomFor_110 (by decide) rfl rfl ?_
    refine zr_iload (pc := 112) hV dX12_roomFor_112 rfl ?_
    refine zr_if_ne (pc := 114) hV 120 dX12_roomFor_114 (by decide) (by omega) (fun c5 => ?_) (fun c5 => ?_)
    · show V 120 [some (ZR 0), some (ZI a), some (ZI c), none, some (ZI r15), some (ZI r23), some (ZI v0_110), none, none, none, none] [] 41 σ
      have u110 : σ 5 a + σ 5 c ≤ 3 ∧ σ 7 a + σ 7 c ≤ 10 := hi110_0 (by omega)
      refine zr_aload_n (pc := 120) hV dX12_roomFor_120 rfl rfl ?_
      refine zr_iload_n (pc := 121) hV dX12_roomFor_121 rfl rfl ?_
      refine zr_callVp (pc := 122) hV [ZI a] (st := []) (c_X12_fieldMask (σ := σ) hσ a (by omega)) dX12_roomFor_122 mX12_274 rfl (by decide) (by decide) (Nat.le_of_ble_eq_true rfl) (Nat.le_refl _) (fun r122 hr122 pr122 => ?_)
      refine zr_aload_n (pc := 125) hV dX12_roomFor_125 rfl rfl ?_
      refine zr_iload_n (pc := 126) hV dX12_roomFor_126 rfl rfl ?_
      refine zr_callVp (pc := 127) hV [ZI c] (st := [ZI r122]) (c_X12_fieldMask (σ := σ) hσ c (by omega)) dX12_roomFor_127 mX12_274 rfl (by decide) (by decide) (Nat.le_of_ble_eq_true rfl) (Nat.le_refl _) (fun r127 hr127 pr127 => ?_)
      refine zr_ior (pc := 130) hV dX12_roomFor_130 ?_
      have t6 := zq_or_in r122 r127
      refine zr_istore (pc := 131) hV [some (ZR 0), some (ZI a), some (ZI c), none, some (ZI r15), some (ZI r23), some (ZI v0_110), some (ZI (zq_or r122 r127)), none, none, none] dX12_roomFor_131 (by decide) rfl rfl ?_
      refine zr_aload_n (pc := 133) hV dX12_roomFor_133 rfl rfl ?_
      refine zr_iload (pc := 134) hV dX12_roomFor_134 rfl ?_
      refine zr_bipush (pc := 136) hV 8 dX12_roomFor_136 (by decide) ?_
      refine zr_iand (pc := 138) hV dX12_roomFor_138 ?_
      have t7 := zq_and_nnR (x := zq_or r122 r127) (y := 8) (by omega)
      have J158 : ∀ (v0_158 : Int), (0 ≤ v0_158 ∧ v0_158 ≤ 12) → (zq_hid (v0_158 = (if zq_and (zq_or r122 r127) 8 = 0 then 0 else (if 0 < r15 then r15 else r23)))) → V 158 [some (ZR 0), none, none, none, none, none, none, some (ZI (zq_or r122 r127)), none, none, none] [ZI v0_158, ZR 0] 41 σ := by
        intro v0_158 hv0_158 hi158_0
        show V 158 [some (ZR 0), none, none, none, none, none, none, some (ZI (zq_or r122 r127)), none, none, none] [ZI v0_158, ZR 0] 41 σ
        refine zr_putI (pc := 158) hV 61 dX12_roomFor_158 fX12_470 rfl rfl rfl rfl (by decide) (fun σ158 eσ158 => ?_)
        have hσ158 : zx_T σ158 := zx_u61 eσ158 hσ (by omega)
        have hFσ158 : ∀ a i : Int, (¬ (a = 0 ∧ i = 30) ∧ ¬ (a = 0 ∧ i = 61) ∧ a ≠ 18) → σ158 a i = σ a i := fun a i h => by rw [eσ158, zq_up_ne h.2.1]
        have Mσ158 : zx_M σ158 := zx_M_fr (fun i => by rw [eσ158]; exact zq_up_ne (by omega)) (by rw [eσ158]; exact zq_up_ne (by omega)) (by rw [eσ158]; exact zq_up_ne (by omega)) (by rw [eσ158]; exact zq_up_ne (by omega)) Mσ
        have Oσ158 : zx_O σ158 := zx_O_fr (fun i => by rw [eσ158]; exact zq_up_ne (by omega)) (fun i => by rw [eσ158]; exact zq_up_ne (by omega)) (fun i => by rw [eσ158]; exact zq_up_ne (by omega)) (by rw [eσ158]; exact zq_up_ne (by omega)) (by rw [eσ158]; exact zq_up_ne (by omega)) Oσ
        refine zr_iconst (pc := 161) hV 0 dX12_roomFor_161 rfl ?_
        refine zr_istore (pc := 162) hV [some (ZR 0), none, none, none, none, none, none, some (ZI (zq_or r122 r127)), some (ZI 0), none, none] dX12_roomFor_162 (by decide) rfl rfl ?_
        have L164 : ∀ (fuel : Nat) (x8_164 : Int) (σ_164 : zq_S), (0 ≤ x8_164 ∧ x8_164 ≤ 3) → (zx_T σ_164) → (∀ a i : Int, (¬ (a = 0 ∧ i = 30) ∧ ¬ (a = 0 ∧ i = 61) ∧ a ≠ 18) → σ_164 a i = σ a i) → (zx_M σ_164) → (zx_O σ_164) → (0 ≤ σ_164 0 61) → (σ_164 0 61 ≤ 12 + 3 * x8_164) → (zq_hid (σ_164 0 61 = zx_rs (if zq_and (zq_or r122 r127) 8 = 0 then 0 else (if 0 < r15 then r15 else r23)) (zq_or r122 r127) (σ 0 1) x8_164)) → 3 - x8_164 < (fuel : Int) → V 164 [some (ZR 0), none, none, none, none, none, none, some (ZI (zq_or r122 r127)), some (ZI x8_164), none, none] [] 41 σ_164 := by
          intro fuel
          induction fuel with
          | zero =>
            intro x8_164 σ_164 hx8_164 hσ_164 hFσ_164 Mσ_164 Oσ_164 hi164_0 hi164_1 hi164_2 hm164
            exfalso; omega
          | succ fuel ih =>
            intro x8_164 σ_164 hx8_164 hσ_164 hFσ_164 Mσ_164 Oσ_164 hi164_0 hi164_1 hi164_2 hm164
            have ih164 := ih
            show V 164 [some (ZR 0), none, none, none, none, none, none, some (ZI (zq_or r122 r127)), some (ZI x8_164), none, none] [] 41 σ_164
            refine zr_iload (pc := 164) hV dX12_roomFor_164 rfl ?_
            refine zr_iconst (pc := 166) hV 3 dX12_roomFor_166 rfl ?_
            refine zr_icmp_ge (pc := 167) hV 197 dX12_roomFor_167 (by decide) (by omega) ⟨by decide, by decide⟩ (fun c8 => ?_) (fun c8 => ?_)
            · show V 197 [some (ZR 0), none, none, none, none, none, none, some (ZI (zq_or r122 r127)), some (ZI x8_164), none, none] [] 41 σ_164
              have rbv : σ_164 0 61 = zx_rb (zq_or (zx_fm σ a 4) (zx_fm σ c 4)) (if 0 < zx_cnt σ a 3 (σ 0 2) then zx_cnt σ a 3 (σ 0 2) else zx_cnt σ c 3 (σ 0 2)) (σ 0 1) := by rw [← zx_rs_3, ← pr15.2.2, ← pr23.2.2, ← pr122, ← pr127, show (3 : Int) = x8_164 by omega]; exact hi164_2
              refine zr_aload_n (pc := 197) hV dX12_roomFor_197 rfl rfl ?_
              refine zr_getI (pc := 198) hV 61 dX12_roomFor_198 fX12_470 rfl rfl rfl (by decide) ?_
              have t9 := zx_g61 hσ_164
              refine zr_aload_n (pc := 201) hV dX12_roomFor_201 rfl rfl ?_
              refine zr_getI (pc := 202) hV 2 dX12_roomFor_202 fX12_16 rfl rfl rfl (by decide) ?_
              have t10 := zx_g2 hσ_164
              have t11 : σ_164 0 2 = σ 0 2 := hFσ_164 _ _ (by omega)
              refine zr_icmp_lt (pc := 205) hV 211 dX12_roomFor_205 (by decide) (by omega) (by omega) (fun c12 => ?_) (fun c12 => ?_)
              · show V 211 [some (ZR 0), none, none, none, none, none, none, some (ZI (zq_or r122 r127)), some (ZI x8_164), none, none] [] 41 σ_164
                refine zr_iconst (pc := 211) hV 0 dX12_roomFor_211 rfl ?_
                refine zr_istore (pc := 212) hV [some (ZR 0), none, none, none, none, none, none, some (ZI (zq_or r122 r127)), some (ZI 0), none, none] dX12_roomFor_212 (by decide) rfl rfl ?_
                have t13 := zx_g61 hσ_164
                have L214 : ∀ (fuel : Nat) (x8_214 : Int) (σ_214 : zq_S), (0 ≤ x8_214 ∧ x8_214 ≤ 4096) → (zx_T σ_214) → (∀ a i : Int, (¬ (a = 0 ∧ i = 30) ∧ ¬ (a = 0 ∧ i = 61) ∧ a ≠ 18) → σ_214 a i = σ a i) → (zx_M σ_214) → (zx_O σ_214) → (σ_214 0 61 = σ_164 0 61) → (zx_p2 (σ_214 0 61) ∣ x8_214) → 4096 - x8_214 < (fuel : Int) → V 214 [some (ZR 0), none, none, none, none, none, none, none, some (ZI x8_214), none, none] [] 41 σ_214 := by
                  intro fuel
                  induction fuel with
                  | zero =>
                    intro x8_214 σ_214 hx8_214 hσ_214 hFσ_214 Mσ_214 Oσ_214 hi214_0 hi214_1 hm214
                    exfalso; omega
                  | succ fuel ih =>
                    intro x8_214 σ_214 hx8_214 hσ_214 hFσ_214 Mσ_214 Oσ_214 hi214_0 hi214_1 hm214
                    have ih214 := ih
                    show V 214 [some (ZR 0), none, none, none, none, none, none, none, some (ZI x8_214), none, none] [] 41 σ_214
                    refine zr_iload (pc := 214) hV dX12_roomFor_214 rfl ?_
                    refine zr_iconst (pc := 216) hV 1 dX12_roomFor_216 rfl ?_
                    refine zr_aload_n (pc := 217) hV dX12_roomFor_217 rfl rfl ?_
                    refine zr_getI (pc := 218) hV 2 dX12_roomFor_218 fX12_16 rfl rfl rfl (by decide) ?_
                    have t14 := zx_g2 hσ_214
                    have t15 : σ_214 0 2 = σ 0 2 := hFσ_214 _ _ (by omega)
                    refine zr_ishl (pc := 221) hV dX12_roomFor_221 ?_
                    have t16 := zx_shl_one (y := σ_214 0 2) 12 4096 (by decide) (by decide) (by omega)
                    refine zr_icmp_ge (pc := 222) hV 295 dX12_roomFor_222 (by decide) (by omega) (by omega) (fun c17 => ?_) (fun c17 => ?_)
                    · show V 295 [some (ZR 0), none, none, none, none, none, none, none, some (ZI x8_214), none, none] [] 41 σ_214
                      refine zr_bipush (pc := 295) hV (-2) dX12_roomFor_295 (by decide) ?_
                      have t18 := zx_g61 hσ_214
                      exact zr_iret (pc := 297) hV dX12_roomFor_297 rfl rfl ⟨_, rfl, ⟨by decide, by decide⟩, hσ_214, hFσ_214, (by omega), (show 0 ≤ ((-2) : Int) → σ 5 a + σ 5 c ≤ 3 ∧ σ 7 a + σ 7 c ≤ 10 ∧ σ_214 0 61 = zx_rb (zq_or (zx_fm σ a 4) (zx_fm σ c 4)) (if 0 < zx_cnt σ a 3 (σ 0 2) then zx_cnt σ a 3 (σ 0 2) else zx_cnt σ c 3 (σ 0 2)) (σ 0 1) ∧ 0 ≤ σ_214 0 61 ∧ σ_214 0 61 < σ 0 2 from (fun h => absurd h (by omega))), Mσ_214, Oσ_214⟩
                    · show V 225 [some (ZR 0), none, none, none, none, none, none, none, some (ZI x8_214), none, none] [] 41 σ_214
                      have hb1 := zx_blk hi214_1 (show x8_214 < zx_p2 (σ_214 0 2) by omega) (by omega) (by omega)
                      have hb2 := zx_p2_le (m := σ_214 0 2) (n := 12) (by omega)
                      have hb3 := zx_p2_12
                      refine zr_iconst (pc := 225) hV 1 dX12_roomFor_225 rfl ?_
                      refine zr_istore (pc := 226) hV [some (ZR 0), none, none, none, none, none, none, none, some (ZI x8_214), some (ZI 1), none] dX12_roomFor_226 (by decide) rfl rfl ?_
                      refine zr_iload (pc := 228) hV dX12_roomFor_228 rfl ?_
                      refine zr_istore (pc := 230) hV [some (ZR 0), none, none, none, none, none, none, none, some (ZI x8_214), some (ZI 1), some (ZI x8_214)] dX12_roomFor_230 (by decide) rfl rfl ?_
                      have t19 := zx_g61 hσ_214
                      have L232 : ∀ (fuel : Nat) (x10_232 : Int) (x9_232 : Int) (σ_232 : zq_S), (0 ≤ x10_232 ∧ x10_232 ≤ 4096) → (0 ≤ x9_232 ∧ x9_232 ≤ 1) → (zx_T σ_232) → (∀ a i : Int, (¬ (a = 0 ∧ i = 30) ∧ ¬ (a = 0 ∧ i = 61) ∧ a ≠ 18) → σ_232 a i = σ a i) → (zx_M σ_232) → (zx_O σ_232) → (x8_214 ≤ x10_232) → (σ_232 0 61 = σ_214 0 61) → 4096 - x10_232 < (fuel : Int) → V 232 [some (ZR 0), none, none, none, none, none, none, none, some (ZI x8_214), some (ZI x9_232), some (ZI x10_232)] [] 41 σ_232 := by
                        intro fuel
                        induction fuel with
                        | zero =>
                          intro x10_232 x9_232 σ_232 hx10_232 hx9_232 hσ_232 hFσ_232 Mσ_232 Oσ_232 hi232_0 hi232_1 hm232
                          exfalso; omega
                        | succ fuel ih =>
                          intro x10_232 x9_232 σ_232 hx10_232 hx9_232 hσ_232 hFσ_232 Mσ_232 Oσ_232 hi232_0 hi232_1 hm232
                          have ih232 := ih
                          have cg : zx_p2 (σ_232 0 61) = zx_p2 (σ_214 0 61) := by rw [hi232_1]
                          show V 232 [some (ZR 0), none, none, none, none, none, none, none, some (ZI x8_214), some (ZI x9_232), some (ZI x10_232)] [] 41 σ_232
                          refine zr_iload (pc := 232) hV dX12_roomFor_232 rfl ?_
                          refine zr_iload (pc := 234) hV dX12_roomFor_234 rfl ?_
                          refine zr_iconst (pc := 236) hV 1 dX12_roomFor_236 rfl ?_
                          refine zr_aload_n (pc := 237) hV dX12_roomFor_237 rfl rfl ?_
                          refine zr_getI (pc := 238) hV 61 dX12_roomFor_238 fX12_470 rfl rfl rfl (by decide) ?_
                          have t20 := zx_g61 hσ_232
                          refine zr_ishl (pc := 241) hV dX12_roomFor_241 ?_
                          have t21 := zx_shl_one (y := σ_232 0 61) 11 2048 (by decide) (by decide) (by omega)
                          refine zr_iadd (pc := 242) hV dX12_roomFor_242 ?_
                          refine zr_icmp_ge (pc := 243) hV 273 dX12_roomFor_243 (by decide) (by omega) (by omega) (fun c22 => ?_) (fun c22 => ?_)
                          · show V 273 [some (ZR 0), none, none, none, none, none, none, none, some (ZI x8_214), some (ZI x9_232), some (ZI x10_232)] [] 41 σ_232
                            refine zr_iload (pc := 273) hV dX12_roomFor_273 rfl ?_
                            refine zr_if_eq (pc := 275) hV 281 dX12_roomFor_275 (by decide) (by omega) (fun c23 => ?_) (fun c23 => ?_)
                            · show V 281 [some (ZR 0), none, none, none, none, none, none, none, some (ZI x8_214), some (ZI x9_232), some (ZI x10_232)] [] 41 σ_232
                              refine zr_iload (pc := 281) hV dX12_roomFor_281 rfl ?_
                              refine zr_iconst (pc := 283) hV 1 dX12_roomFor_283 rfl ?_
                              refine zr_aload_n (pc := 284) hV dX12_roomFor_284 rfl rfl ?_
                              refine zr_getI (pc := 285) hV 61 dX12_roomFor_285 fX12_470 rfl rfl rfl (by decide) ?_
                              have t24 := zx_g61 hσ_232
                              refine zr_ishl (pc := 288) hV dX12_roomFor_288 ?_
                              have t25 := zx_shl_one (y := σ_232 0 61) 11 2048 (by decide) (by decide) (by omega)
                              refine zr_iadd (pc := 289) hV dX12_roomFor_289 ?_
                              refine zr_istore (pc := 290) hV [some (ZR 0), none, none, none, none, none, none, none, some (ZI (x8_214 + (zq_shl 1 (σ_232 0 61)))), some (ZI x9_232), some (ZI x10_232)] dX12_roomFor_290 (by decide) rfl rfl ?_
                              refine zr_goto (pc := 292) hV 214 dX12_roomFor_292 (by decide) ?_
                              have t26 := zx_g61 hσ_232
                              have t27 := zx_g61 hσ_232
                              refine zr_sub (pc := 214) hV [some (ZR 0), none, none, none, none, none, none, none, some (ZI (x8_214 + (zq_shl 1 (σ_232 0 61)))), none, none] (⟨rfl, rfl, trivial⟩) ?_
                              exact ih214 (x8_214 + (zq_shl 1 (σ_232 0 61))) σ_232 (by omega) hσ_232 hFσ_232 Mσ_232 Oσ_232 (by omega) (by have e1 := (zx_shl_one (y := σ_232 0 61) 11 2048 (by decide) (by decide) (by omega)).1; rw [e1, cg]; exact Int.dvd_add hi214_1 (Int.dvd_refl _)) (by omega)
                            · show V 278 [some (ZR 0), none, none, none, none, none, none, none, some (ZI x8_214), some (ZI x9_232), some (ZI x10_232)] [] 41 σ_232
                              refine zr_iload (pc := 278) hV dX12_roomFor_278 rfl ?_
                              have t28 := zx_g61 hσ_232
                              exact zr_iret (pc := 280) hV dX12_roomFor_280 rfl rfl ⟨_, rfl, (by omega), hσ_232, hFσ_232, (by omega), (show 0 ≤ x8_214 → σ 5 a + σ 5 c ≤ 3 ∧ σ 7 a + σ 7 c ≤ 10 ∧ σ_232 0 61 = zx_rb (zq_or (zx_fm σ a 4) (zx_fm σ c 4)) (if 0 < zx_cnt σ a 3 (σ 0 2) then zx_cnt σ a 3 (σ 0 2) else zx_cnt σ c 3 (σ 0 2)) (σ 0 1) ∧ 0 ≤ σ_232 0 61 ∧ σ_232 0 61 < σ 0 2 from (fun _ => ⟨u110.1, u110.2, by rw [hi232_1, hi214_0]; exact rbv, by omega, by omega⟩)), Mσ_232, Oσ_232⟩
                          · show V 246 [some (ZR 0), none, none, none, none, none, none, none, some (ZI x8_214), some (ZI x9_232), some (ZI x10_232)] [] 41 σ_232
                            refine zr_iload (pc := 246) hV dX12_roomFor_246 rfl ?_
                            refine zr_if_eq (pc := 248) hV 273 dX12_roomFor_248 (by decide) (by omega) (fun c29 => ?_) (fun c29 => ?_)
                            · show V 273 [some (ZR 0), none, none, none, none, none, none, none, some (ZI x8_214), some (ZI x9_232), some (ZI x10_232)] [] 41 σ_232
                              refine zr_iload (pc := 273) hV dX12_roomFor_273 rfl ?_
                              refine zr_if_eq (pc := 275) hV 281 dX12_roomFor_275 (by decide) (by omega) (fun c30 => ?_) (fun c30 => ?_)
                              · show V 281 [some (ZR 0), none, none, none, none, none, none, none, some (ZI x8_214), some (ZI x9_232), some (ZI x10_232)] [] 41 σ_232
                                refine zr_iload (pc := 281) hV dX12_roomFor_281 rfl ?_
                                refine zr_iconst (pc := 283) hV 1 dX12_roomFor_283 rfl ?_
                                refine zr_aload_n (pc := 284) hV dX12_roomFor_284 rfl rfl ?_
                                refine zr_getI (pc := 285) hV 61 dX12_roomFor_285 fX12_470 rfl rfl rfl (by decide) ?_
                                have t31 := zx_g61 hσ_232
                                refine zr_ishl (pc := 288) hV dX12_roomFor_288 ?_
                                have t32 := zx_shl_one (y := σ_232 0 61) 11 2048 (by decide) (by decide) (by omega)
                                refine zr_iadd (pc := 289) hV dX12_roomFor_289 ?_
                                refine zr_istore (pc := 290) hV [some (ZR 0), none, none, none, none, none, none, none, some (ZI (x8_214 + (zq_shl 1 (σ_232 0 61)))), some (ZI x9_232), some (ZI x10_232)] dX12_roomFor_290 (by decide) rfl rfl ?_
                                refine zr_goto (pc := 292) hV 214 dX12_roomFor_292 (by decide) ?_
                                have t33 := zx_g61 hσ_232
                                have t34 := zx_g61 hσ_232
                                refine zr_sub (pc := 214) hV [some (ZR 0), none, none, none, none, none, none, none, some (ZI (x8_214 + (zq_shl 1 (σ_232 0 61)))), none, none] (⟨rfl, rfl, trivial⟩) ?_
                                exact ih214 (x8_214 + (zq_shl 1 (σ_232 0 61))) σ_232 (by omega) hσ_232 hFσ_232 Mσ_232 Oσ_232 (by omega) (by have e1 := (zx_shl_one (y := σ_232 0 61) 11 2048 (by decide) (by decide) (by omega)).1; rw [e1, cg]; exact Int.dvd_add hi214_1 (Int.dvd_refl _)) (by omega)
                              · exfalso; omega
                            · show V 251 [some (ZR 0), none, none, none, none, none, none, none, some (ZI x8_214), some (ZI x9_232), some (ZI x10_232)] [] 41 σ_232
                              refine zr_aload_n (pc := 251) hV dX12_roomFor_251 rfl rfl ?_
                              refine zr_iload (pc := 252) hV dX12_roomFor_252 rfl ?_
                              refine zr_callVi (pc := 254) hV [ZI x10_232] (st := []) (c_X12_ownerOf (σ := σ_232) hσ_232 x10_232 (by omega) Mσ_232) dX12_roomFor_254 mX12_283 rfl (by decide) (by decide) (Nat.le_of_ble_eq_true rfl) (Nat.le_refl _) (fun r254 σ254 hr254 pσ254 => ?_)
                              obtain ⟨hσ254, hfσ254, pσ254⟩ := pσ254
                              have Mσ254 : zx_M σ254 := pσ254.2.2.2.2.2
                              have Oσ254 : zx_O σ254 := zx_O_fr (fun i => hfσ254 2 i (by omega)) (fun i => hfσ254 5 i (by omega)) (fun i => hfσ254 6 i (by omega)) (hfσ254 0 2 (by omega)) (hfσ254 0 3 (by omega)) Oσ_232
                              have hFσ254 : ∀ a i : Int, (¬ (a = 0 ∧ i = 30) ∧ ¬ (a = 0 ∧ i = 61) ∧ a ≠ 18) → σ254 a i = σ a i := fun a i h => (hfσ254 a i ⟨h.1, h.2.2⟩).trans (hFσ_232 a i h)
                              have t35 := zx_g30 hσ_232
                              have t36 := zx_g30 hσ254
                              refine zr_if_ge (pc := 257) hV 264 dX12_roomFor_257 (by decide) (by omega) (fun c37 => ?_) (fun c37 => ?_)
                              · show V 264 [some (ZR 0), none, none, none, none, none, none, none, some (ZI x8_214), some (ZI x9_232), some (ZI x10_232)] [] 41 σ254
                                refine zr_iconst (pc := 264) hV 0 dX12_roomFor_264 rfl ?_
                                show V 265 [some (ZR 0), none, none, none, none, none, none, none, some (ZI x8_214), some (ZI x9_232), some (ZI x10_232)] [ZI 0] 41 σ254
                                refine zr_istore (pc := 265) hV [some (ZR 0), none, none, none, none, none, none, none, some (ZI x8_214), some (ZI 0), some (ZI x10_232)] dX12_roomFor_265 (by decide) rfl rfl ?_
                                refine zr_iinc (pc := 267) hV [some (ZR 0), none, none, none, none, none, none, none, some (ZI x8_214), some (ZI 0), some (ZI (x10_232 + 1))] (x10_232 + 1) dX12_roomFor_267 rfl rfl (by decide) rfl rfl ?_
                                refine zr_goto (pc := 270) hV 232 dX12_roomFor_270 (by decide) ?_
                                have t38 := zx_g61 hσ254
                                have t39 : σ254 0 61 = σ_232 0 61 := hfσ254 _ _ (by omega)
                                exact ih232 (x10_232 + 1) 0 σ254 (by omega) (by omega) hσ254 hFσ254 Mσ254 Oσ254 (by omega) (by omega) (by omega)
                              · show V 260 [some (ZR 0), none, none, none, none, none, none, none, some (ZI x8_214), some (ZI x9_232), some (ZI x10_232)] [] 41 σ254
                                refine zr_iconst (pc := 260) hV 1 dX12_roomFor_260 rfl ?_
                                refine zr_goto (pc := 261) hV 265 dX12_roomFor_261 (by decide) ?_
                                show V 265 [some (ZR 0), none, none, none, none, none, none, none, some (ZI x8_214), some (ZI x9_232), some (ZI x10_232)] [ZI 1] 41 σ254
                                refine zr_istore (pc := 265) hV [some (ZR 0), none, none, none, none, none, none, none, some (ZI x8_214), some (ZI 1), some (ZI x10_232)] dX12_roomFor_265 (by decide) rfl rfl ?_
                                refine zr_iinc (pc := 267) hV [some (ZR 0), none, none, none, none, none, none, none, some (ZI x8_214), some (ZI 1), some (ZI (x10_232 + 1))] (x10_232 + 1) dX12_roomFor_267 rfl rfl (by decide) rfl rfl ?_
                                refine zr_goto (pc := 270) hV 232 dX12_roomFor_270 (by decide) ?_
                                have t40 := zx_g61 hσ254
                                have t41 : σ254 0 61 = σ_232 0 61 := hfσ254 _ _ (by omega)
                                exact ih232 (x10_232 + 1) 1 σ254 (by omega) (by omega) hσ254 hFσ254 Mσ254 Oσ254 (by omega) (by omega) (by omega)
                      have t42 := zx_g61 hσ_214
                      exact L232 (4096 - x8_214 + 1 : Int).toNat x8_214 1 σ_214 (by omega) (by omega) hσ_214 hFσ_214 Mσ_214 Oσ_214 (by omega) (by omega) (by omega)
                have t43 := zx_g61 hσ_164
                have t44 := zx_g61 hσ_164
                refine zr_sub (pc := 214) hV [some (ZR 0), none, none, none, none, none, none, none, some (ZI 0), none, none] (⟨rfl, rfl, trivial⟩) ?_
                exact L214 (4096 - (0 : Int) + 1 : Int).toNat 0 σ_164 (by omega) hσ_164 hFσ_164 Mσ_164 Oσ_164 (by omega) (Int.dvd_zero _) (by omega)
              · show V 208 [some (ZR 0), none, none, none, none, none, none, some (ZI (zq_or r122 r127)), some (ZI x8_164), none, none] [] 41 σ_164
                refine zr_bipush (pc := 208) hV (-2) dX12_roomFor_208 (by decide) ?_
                have t45 := zx_g61 hσ_164
                exact zr_iret (pc := 210) hV dX12_roomFor_210 rfl rfl ⟨_, rfl, ⟨by decide, by decide⟩, hσ_164, hFσ_164, (by omega), (show 0 ≤ ((-2) : Int) → σ 5 a + σ 5 c ≤ 3 ∧ σ 7 a + σ 7 c ≤ 10 ∧ σ_164 0 61 = zx_rb (zq_or (zx_fm σ a 4) (zx_fm σ c 4)) (if 0 < zx_cnt σ a 3 (σ 0 2) then zx_cnt σ a 3 (σ 0 2) else zx_cnt σ c 3 (σ 0 2)) (σ 0 1) ∧ 0 ≤ σ_164 0 61 ∧ σ_164 0 61 < σ 0 2 from (fun h => absurd h (by omega))), Mσ_164, Oσ_164⟩
            · show V 170 [some (ZR 0), none, none, none, none, none, none, some (ZI (zq_or r122 r127)), some (ZI x8_164), none, none] [] 41 σ_164
              refine zr_aload_n (pc := 170) hV dX12_roomFor_170 rfl rfl ?_
              refine zr_dup (pc := 171) hV dX12_roomFor_171 (fun _ => rfl) ?_
              refine zr_getI (pc := 172) hV 61 dX12_roomFor_172 fX12_470 rfl rfl rfl (by decide) ?_
              have t46 := zx_g61 hσ_164
              refine zr_iload (pc := 175) hV dX12_roomFor_175 rfl ?_
              refine zr_iload (pc := 177) hV dX12_roomFor_177 rfl ?_
              refine zr_ishr (pc := 179) hV dX12_roomFor_179 ?_
              have t47 := zq_shr_in (zq_or r122 r127) x8_164
              refine zr_iconst (pc := 180) hV 1 dX12_roomFor_180 rfl ?_
              refine zr_iand (pc := 181) hV dX12_roomFor_181 ?_
              have t48 := zq_and_mask (zq_shr (zq_or r122 r127) x8_164) 1 1 2 (by decide) (by decide) (by decide)
              refine zr_aload_n (pc := 182) hV dX12_roomFor_182 rfl rfl ?_
              refine zr_getI (pc := 183) hV 1 dX12_roomFor_183 fX12_13 rfl rfl rfl (by decide) ?_
              have t49 := zx_g1 hσ_164
              have t50 : σ_164 0 1 = σ 0 1 := hFσ_164 _ _ (by omega)
              refine zr_imul (pc := 186) hV dX12_roomFor_186 ?_
              have t51 := zq_mul_b (x := zq_and (zq_shr (zq_or r122 r127) x8_164) 1) (y := σ_164 0 1) 1 3 (by omega) (by omega)
              refine zr_iadd (pc := 187) hV dX12_roomFor_187 ?_
              refine zr_putI (pc := 188) hV 61 dX12_roomFor_188 fX12_470 rfl rfl rfl rfl (by decide) (fun σ188 eσ188 => ?_)
              have hσ188 : zx_T σ188 := zx_u61 eσ188 hσ_164 (by omega)
              have hFσ188 : ∀ a i : Int, (¬ (a = 0 ∧ i = 30) ∧ ¬ (a = 0 ∧ i = 61) ∧ a ≠ 18) → σ188 a i = σ a i := fun a i h => by rw [eσ188, zq_up_ne h.2.1]; exact hFσ_164 a i h
              have Mσ188 : zx_M σ188 := zx_M_fr (fun i => by rw [eσ188]; exact zq_up_ne (by omega)) (by rw [eσ188]; exact zq_up_ne (by omega)) (by rw [eσ188]; exact zq_up_ne (by omega)) (by rw [eσ188]; exact zq_up_ne (by omega)) Mσ_164
              have Oσ188 : zx_O σ188 := zx_O_fr (fun i => by rw [eσ188]; exact zq_up_ne (by omega)) (fun i => by rw [eσ188]; exact zq_up_ne (by omega)) (fun i => by rw [eσ188]; exact zq_up_ne (by omega)) (by rw [eσ188]; exact zq_up_ne (by omega)) (by rw [eσ188]; exact zq_up_ne (by omega)) Oσ_164
              refine zr_iinc (pc := 191) hV [some (ZR 0), none, none, none, none, none, none, some (ZI (zq_or r122 r127)), some (ZI (x8_164 + 1)), none, none] (x8_164 + 1) dX12_roomFor_191 rfl rfl (by decide) rfl rfl ?_
              refine zr_goto (pc := 194) hV 164 dX12_roomFor_194 (by decide) ?_
              have t52 := zx_g61 hσ188
              have t53 : σ188 0 61 = (σ_164 0 61) + ((zq_and (zq_shr (zq_or r122 r127) x8_164) 1) * (σ_164 0 1)) := by rw [eσ188]; exact zq_up_same _ _ _ _
              have t54 := zx_g61 hσ188
              have t55 : σ188 0 61 = (σ_164 0 61) + ((zq_and (zq_shr (zq_or r122 r127) x8_164) 1) * (σ_164 0 1)) := by rw [eσ188]; exact zq_up_same _ _ _ _
              have t56 := zx_g61 hσ188
              have t57 : σ188 0 61 = (σ_164 0 61) + ((zq_and (zq_shr (zq_or r122 r127) x8_164) 1) * (σ_164 0 1)) := by rw [eσ188]; exact zq_up_same _ _ _ _
              exact ih164 (x8_164 + 1) σ188 (by omega) hσ188 hFσ188 Mσ188 Oσ188 (by omega) (by omega) (by unfold zq_hid; rw [eσ188, zq_up_same, zx_rs_s _ _ _ (by omega), ← (show σ_164 0 61 = _ from hi164_2), show σ_164 0 1 = σ 0 1 by omega]) (by omega)
        have t58 := zx_g61 hσ158
        have t59 : σ158 0 61 = v0_158 := by rw [eσ158]; exact zq_up_same _ _ _ _
        have t60 := zx_g61 hσ158
        have t61 : σ158 0 61 = v0_158 := by rw [eσ158]; exact zq_up_same _ _ _ _
        have t62 := zx_g61 hσ158
        have t63 : σ158 0 61 = v0_158 := by rw [eσ158]; exact zq_up_same _ _ _ _
        exact L164 (3 - (0 : Int) + 1 : Int).toNat 0 σ158 (by omega) hσ158 hFσ158 Mσ158 Oσ158 (by omega) (by omega) (by unfold zq_hid; rw [eσ158, zq_up_same, zx_rs_0]; exact hi158_0) (by omega)
      refine zr_if_eq (pc := 139) hV 157 dX12_roomFor_139 (by decide) (by omega) (fun c64 => ?_) (fun c64 => ?_)
      · show V 157 [some (ZR 0), some (ZI a), some (ZI c), none, some (ZI r15), some (ZI r23), some (ZI v0_110), some (ZI (zq_or r122 r127)), none, none, none] [ZR 0] 41 σ
        refine zr_iconst (pc := 157) hV 0 dX12_roomFor_157 rfl ?_
        refine zr_sub (pc := 158) hV [some (ZR 0), none, none, none, none, none, none, some (ZI (zq_or r122 r127)), none, none, none] (⟨rfl, rfl, trivial⟩) ?_
        exact J158 0 (by omega) (by unfold zq_hid; rw [if_pos (by omega)])
      · show V 142 [some (ZR 0), some (ZI a), some (ZI c), none, some (ZI r15), some (ZI r23), some (ZI v0_110), some (ZI (zq_or r122 r127)), none, none, none] [ZR 0] 41 σ
        refine zr_iload (pc := 142) hV dX12_roomFor_142 rfl ?_
        refine zr_if_le (pc := 144) hV 152 dX12_roomFor_144 (by decide) (by omega) (fun c65 => ?_) (fun c65 => ?_)
        · show V 152 [some (ZR 0), some (ZI a), some (ZI c), none, some (ZI r15), some (ZI r23), some (ZI v0_110), some (ZI (zq_or r122 r127)), none, none, none] [ZR 0] 41 σ
          refine zr_iload (pc := 152) hV dX12_roomFor_152 rfl ?_
          refine zr_goto (pc := 154) hV 158 dX12_roomFor_154 (by decide) ?_
          refine zr_sub (pc := 158) hV [some (ZR 0), none, none, none, none, none, none, some (ZI (zq_or r122 r127)), none, none, none] (⟨rfl, rfl, trivial⟩) ?_
          exact J158 r23 (by omega) (by unfold zq_hid; rw [if_neg (by omega), if_neg (by omega)])
        · show V 147 [some (ZR 0), some (ZI a), some (ZI c), none, some (ZI r15), some (ZI r23), some (ZI v0_110), some (ZI (zq_or r122 r127)), none, none, none] [ZR 0] 41 σ
          refine zr_iload (pc := 147) hV dX12_roomFor_147 rfl ?_
          refine zr_goto (pc := 149) hV 158 dX12_roomFor_149 (by decide) ?_
          refine zr_sub (pc := 158) hV [some (ZR 0), none, none, none, none, none, none, some (ZI (zq_or r122 r127)), none, none, none] (⟨rfl, rfl, trivial⟩) ?_
          exact J158 r15 (by omega) (by unfold zq_hid; rw [if_neg (by omega), if_pos (by omega)])
    · show V 117 [some (ZR 0), some (ZI a), some (ZI c), none, some (ZI r15), some (ZI r23), some (ZI v0_110), none, none, none, none] [] 41 σ
      refine zr_bipush (pc := 117) hV (-2) dX12_roomFor_117 (by decide) ?_
      have t66 := zx_g61 hσ
      exact zr_iret (pc := 119) hV dX12_roomFor_119 rfl rfl ⟨_, rfl, ⟨by decide, by decide⟩, hσ, (fun a i _ => rfl), (by omega), (show 0 ≤ ((-2) : Int) → σ 5 a + σ 5 c ≤ 3 ∧ σ 7 a + σ 7 c ≤ 10 ∧ σ 0 61 = zx_rb (zq_or (zx_fm σ a 4) (zx_fm σ c 4)) (if 0 < zx_cnt σ a 3 (σ 0 2) then zx_cnt σ a 3 (σ 0 2) else zx_cnt σ c 3 (σ 0 2)) (σ 0 1) ∧ 0 ≤ σ 0 61 ∧ σ 0 61 < σ 0 2 from (fun h => absurd h (by omega))), Mσ, Oσ⟩
  have J109 : V 109 [some (ZR 0), some (ZI a), some (ZI c), none, some (ZI r15), some (ZI r23), none, none, none, none, none] [] 41 σ := by
    show V 109 [some (ZR 0), some (ZI a), some (ZI c), none, some (ZI r15), some (ZI r23), none, none, none, none, none] [] 41 σ
    refine zr_iconst (pc := 109) hV 0 dX12_roomFor_109 rfl ?_
    exact J110 0 (by omega) (fun h => absurd h (by omega))
  refine zr_if_ne (pc := 34) hV 109 dX12_roomFor_34 (by decide) (by omega) (fun c67 => ?_) (fun c67 => ?_)
  · refine zr_sub (pc := 109) hV [some (ZR 0), some (ZI a), some (ZI c), none, some (ZI r15), some (ZI r23), none, none, none, none, none] (⟨rfl, rfl, rfl, rfl, rfl, trivial⟩) ?_
    exact J109
  · show V 37 [some (ZR 0), some (ZI a), some (ZI c), some (ZI (zq_or r2 r7)), some (ZI r15), some (ZI r23), none, none, none, none, none] [] 41 σ
    refine zr_aload_n (pc := 37) hV dX12_roomFor_37 rfl rfl ?_
    refine zr_getR (pc := 38) hV 6 3 dX12_roomFor_38 fX12_26 rfl rfl rfl (by decide) (zx_g6 hσ) (by omega) ?_
    refine zr_iload_n (pc := 41) hV dX12_roomFor_41 rfl rfl ?_
    refine zr_iald (pc := 42) hV dX12_roomFor_42 rfl (by decide) rfl (by omega) ?_
    have t68 := zx_ga3 hσ c
    refine zr_if_ne (pc := 43) hV 109 dX12_roomFor_43 (by decide) (by omega) (fun c69 => ?_) (fun c69 => ?_)
    · refine zr_sub (pc := 109) hV [some (ZR 0), some (ZI a), some (ZI c), none, some (ZI r15), some (ZI r23), none, none, none, none, none] (⟨rfl, rfl, rfl, rfl, rfl, trivial⟩) ?_
      exact J109
    · show V 46 [some (ZR 0), some (ZI a), some (ZI c), some (ZI (zq_or r2 r7)), some (ZI r15), some (ZI r23), none, none, none, none, none] [] 41 σ
      refine zr_iload_n (pc := 46) hV dX12_roomFor_46 rfl rfl ?_
      refine zr_bipush (pc := 47) hV 16 dX12_roomFor_47 (by decide) ?_
      refine zr_iand (pc := 49) hV dX12_roomFor_49 ?_
      have t70 := zq_and_nnR (x := zq_or r2 r7) (y := 16) (by omega)
      refine zr_if_ne (pc := 50) hV 109 dX12_roomFor_50 (by decide) (by omega) (fun c71 => ?_) (fun c71 => ?_)
      · refine zr_sub (pc := 109) hV [some (ZR 0), some (ZI a), some (ZI c), none, some (ZI r15), some (ZI r23), none, none, none, none, none] (⟨rfl, rfl, rfl, rfl, rfl, trivial⟩) ?_
        exact J109
      · show V 53 [some (ZR 0), some (ZI a), some (ZI c), some (ZI (zq_or r2 r7)), some (ZI r15), some (ZI r23), none, none, none, none, none] [] 41 σ
        refine zr_aload_n (pc := 53) hV dX12_roomFor_53 rfl rfl ?_
        refine zr_getR (pc := 54) hV 8 5 dX12_roomFor_54 fX12_32 rfl rfl rfl (by decide) (zx_g8 hσ) (by omega) ?_
        refine zr_iload_n (pc := 57) hV dX12_roomFor_57 rfl rfl ?_
        refine zr_iald (pc := 58) hV dX12_roomFor_58 rfl (by decide) rfl (by omega) ?_
        have t72 := zx_ga5 hσ a
        refine zr_aload_n (pc := 59) hV dX12_roomFor_59 rfl rfl ?_
        refine zr_getR (pc := 60) hV 8 5 dX12_roomFor_60 fX12_32 rfl rfl rfl (by decide) (zx_g8 hσ) (by omega) ?_
        refine zr_iload_n (pc := 63) hV dX12_roomFor_63 rfl rfl ?_
        refine zr_iald (pc := 64) hV dX12_roomFor_64 rfl (by decide) rfl (by omega) ?_
        have t73 := zx_ga5 hσ c
        refine zr_iadd (pc := 65) hV dX12_roomFor_65 ?_
        refine zr_iconst (pc := 66) hV 3 dX12_roomFor_66 rfl ?_
        refine zr_icmp_gt (pc := 67) hV 109 dX12_roomFor_67 (by decide) (by omega) ⟨by decide, by decide⟩ (fun c74 => ?_) (fun c74 => ?_)
        · refine zr_sub (pc := 109) hV [some (ZR 0), some (ZI a), some (ZI c), none, some (ZI r15), some (ZI r23), none, none, none, none, none] (⟨rfl, rfl, rfl, rfl, rfl, trivial⟩) ?_
          exact J109
        · show V 70 [some (ZR 0), some (ZI a), some (ZI c), some (ZI (zq_or r2 r7)), some (ZI r15), some (ZI r23), none, none, none, none, none] [] 41 σ
          refine zr_aload_n (pc := 70) hV dX12_roomFor_70 rfl rfl ?_
          refine zr_getR (pc := 71) hV 10 7 dX12_roomFor_71 fX12_38 rfl rfl rfl (by decide) (zx_g10 hσ) (by omega) ?_
          refine zr_iload_n (pc := 74) hV dX12_roomFor_74 rfl rfl ?_
          refine zr_iald (pc := 75) hV dX12_roomFor_75 rfl (by decide) rfl (by omega) ?_
          have t75 := zx_ga7 hσ a
          refine zr_aload_n (pc := 76) hV dX12_roomFor_76 rfl rfl ?_
          refine zr_getR (pc := 77) hV 10 7 dX12_roomFor_77 fX12_38 rfl rfl rfl (by decide) (zx_g10 hσ) (by omega) ?_
          refine zr_iload_n (pc := 80) hV dX12_roomFor_80 rfl rfl ?_
          refine zr_iald (pc := 81) hV dX12_roomFor_81 rfl (by decide) rfl (by omega) ?_
          have t76 := zx_ga7 hσ c
          refine zr_iadd (pc := 82) hV dX12_roomFor_82 ?_
          refine zr_bipush (pc := 83) hV 10 dX12_roomFor_83 (by decide) ?_
          refine zr_icmp_gt (pc := 85) hV 109 dX12_roomFor_85 (by decide) (by omega) ⟨by decide, by decide⟩ (fun c77 => ?_) (fun c77 => ?_)
          · refine zr_sub (pc := 109) hV [some (ZR 0), some (ZI a), some (ZI c), none, some (ZI r15), some (ZI r23), none, none, none, none, none] (⟨rfl, rfl, rfl, rfl, rfl, trivial⟩) ?_
            exact J109
          · show V 88 [some (ZR 0), some (ZI a), some (ZI c), some (ZI (zq_or r2 r7)), some (ZI r15), some (ZI r23), none, none, none, none, none] [] 41 σ
            refine zr_iload (pc := 88) hV dX12_roomFor_88 rfl ?_
            have J105 : (σ 5 a + σ 5 c ≤ 3) → (σ 7 a + σ 7 c ≤ 10) → V 105 [some (ZR 0), some (ZI a), some (ZI c), none, some (ZI r15), some (ZI r23), none, none, none, none, none] [] 41 σ := by
              intro hi105_0 hi105_1
              show V 105 [some (ZR 0), some (ZI a), some (ZI c), none, some (ZI r15), some (ZI r23), none, none, none, none, none] [] 41 σ
              refine zr_iconst (pc := 105) hV 1 dX12_roomFor_105 rfl ?_
              refine zr_goto (pc := 106) hV 110 dX12_roomFor_106 (by decide) ?_
              exact J110 1 (by omega) (fun _ => ⟨by omega, by omega⟩)
            refine zr_if_eq (pc := 90) hV 105 dX12_roomFor_90 (by decide) (by omega) (fun c78 => ?_) (fun c78 => ?_)
            · refine zr_sub (pc := 105) hV [some (ZR 0), some (ZI a), some (ZI c), none, some (ZI r15), some (ZI r23), none, none, none, none, none] (⟨rfl, rfl, rfl, rfl, rfl, trivial⟩) ?_
              exact J105 (by omega) (by omega)
            · show V 93 [some (ZR 0), some (ZI a), some (ZI c), some (ZI (zq_or r2 r7)), some (ZI r15), some (ZI r23), none, none, none, none, none] [] 41 σ
              refine zr_iload (pc := 93) hV dX12_roomFor_93 rfl ?_
              refine zr_if_eq (pc := 95) hV 105 dX12_roomFor_95 (by decide) (by omega) (fun c79 => ?_) (fun c79 => ?_)
              · refine zr_sub (pc := 105) hV [some (ZR 0), some (ZI a), some (ZI c), none, some (ZI r15), some (ZI r23), none, none, none, none, none] (⟨rfl, rfl, rfl, rfl, rfl, trivial⟩) ?_
                exact J105 (by omega) (by omega)
              · show V 98 [some (ZR 0), some (ZI a), some (ZI c), some (ZI (zq_or r2 r7)), some (ZI r15), some (ZI r23), none, none, none, none, none] [] 41 σ
                refine zr_iload (pc := 98) hV dX12_roomFor_98 rfl ?_
                refine zr_iload (pc := 100) hV dX12_roomFor_100 rfl ?_
                refine zr_icmp_ne (pc := 102) hV 109 dX12_roomFor_102 (by decide) (by omega) (by omega) (fun c80 => ?_) (fun c80 => ?_)
                · refine zr_sub (pc := 109) hV [some (ZR 0), some (ZI a), some (ZI c), none, some (ZI r15), some (ZI r23), none, none, none, none, none] (⟨rfl, rfl, rfl, rfl, rfl, trivial⟩) ?_
                  exact J109
                · refine zr_sub (pc := 105) hV [some (ZR 0), some (ZI a), some (ZI c), none, some (ZI r15), some (ZI r23), none, none, none, none, none] (⟨rfl, rfl, rfl, rfl, rfl, trivial⟩) ?_
                  exact J105 (by omega) (by omega)
