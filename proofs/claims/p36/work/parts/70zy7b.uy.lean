set_option maxHeartbeats 800000 in
theorem c_X12_run3 {σ : zq_S} (hσ : zx_T σ) (n : Int) (q0 : zq_in n) (q1 : zq_hid (zs_la σ)) (q2 : zq_hid (zs_gg σ)) (Mσ : zx_M σ) (Oσ : zx_O σ) (Kσ : zx_K σ) (Wσ : zx_W σ) : zq_C zx_w yX12_run cX12_run 3 (some .int) 5 127 41 41 [ZR 0, ZI n] σ (zq_pi (fun r τ => zx_T τ ∧ (∀ a i : Int, (¬ (a = 0 ∧ i = 26) ∧ ¬ (a = 0 ∧ i = 27) ∧ ¬ (a = 0 ∧ i = 30) ∧ a ≠ 15 ∧ a ≠ 16 ∧ a ≠ 18) → τ a i = σ a i) ∧ (True) ∧ zq_hid ((¬ (1 ≤ n ∧ n ≤ 2000) → r = -1 ∧ ∀ a i, τ a i = σ a i) ∧ (1 ≤ n ∧ n ≤ 2000 → ∃ d μ, 0 ≤ d ∧ d ≤ n ∧ r = (if d = 0 then -5 else d) ∧ zs_cn zs_Rr d σ μ ∧ zx_T μ ∧ (∀ a i, a ≠ 18 → ¬ (a = 0 ∧ i = 30) → τ a i = μ a i) ∧ (d < n → zs_rno μ))) ∧ zx_M τ ∧ zx_O τ ∧ zx_K τ ∧ zx_W τ)) := by
  refine zq_C_of (by decide) (Nat.le_refl _) (Nat.le_of_ble_eq_true rfl) [some (ZR 0), some (ZI n), none] rfl (fun V hV => ?_)
  show V 0 [some (ZR 0), some (ZI n), none] [] 41 σ
  refine zr_iload_n (pc := 0) hV dX12_run_0 rfl rfl ?_
  refine zr_i2l (pc := 1) hV dX12_run_1 (by omega) ?_
  refine zr_lconst (pc := 2) hV 1 dX12_run_2 (by decide) ?_
  refine zr_ldc2 (pc := 3) (v := 2000) hV 2000 dX12_run_3 kX12_380 (by decide) ?_
  refine zr_callSp (pc := 6) hV [ZL n, ZL 1, ZL 2000] (st := []) (c_X12_in (σ := σ) n 1 2000 (by omega) (by omega) (by omega)) dX12_run_6 mX12_170 (by decide) (Nat.le_of_ble_eq_true rfl) (Nat.le_refl _) (fun r6 hr6 pr6 => ?_)
  refine zr_if_ne (pc := 9) hV 14 dX12_run_9 (by decide) (by omega) (fun c1 => ?_) (fun c1 => ?_)
  · show V 14 [some (ZR 0), some (ZI n), none] [] 41 σ
    refine zr_iconst (pc := 14) hV 0 dX12_run_14 rfl ?_
    refine zr_istore_n (pc := 15) hV [some (ZR 0), some (ZI n), some (ZI 0)] dX12_run_15 rfl (by decide) rfl rfl ?_
    have L16 : ∀ (fuel : Nat) (x2_16 : Int) (σ_16 : zq_S), (0 ≤ x2_16 ∧ x2_16 ≤ 2000) → (zx_T σ_16) → (∀ a i : Int, (¬ (a = 0 ∧ i = 26) ∧ ¬ (a = 0 ∧ i = 27) ∧ ¬ (a = 0 ∧ i = 30) ∧ a ≠ 15 ∧ a ≠ 16 ∧ a ≠ 18) → σ_16 a i = σ a i) → (zx_M σ_16) → (zx_O σ_16) → (zx_K σ_16) → (zx_W σ_16) → (zq_hid (zs_cn zs_Rr x2_16 σ σ_16)) → (zq_hid (zs_la σ_16)) → (x2_16 ≤ n) → 2000 - x2_16 < (fuel : Int) → V 16 [some (ZR 0), some (ZI n), some (ZI x2_16)] [] 41 σ_16 := by
      intro fuel
      induction fuel with
      | zero =>
        intro x2_16 σ_16 hx2_16 hσ_16 hFσ_16 Mσ_16 Oσ_16 Kσ_16 Wσ_16 hi16_0 hi16_1 hi16_2 hm16
        exfalso; omega
      | succ fuel ih =>
        intro x2_16 σ_16 hx2_16 hσ_16 hFσ_16 Mσ_16 Oσ_16 Kσ_16 Wσ_16 hi16_0 hi16_1 hi16_2 hm16
        have ih16 := ih
        show V 16 [some (ZR 0), some (ZI n), some (ZI x2_16)] [] 41 σ_16
        refine zr_iload_n (pc := 16) hV dX12_run_16 rfl rfl ?_
        refine zr_iload_n (pc := 17) hV dX12_run_17 rfl rfl ?_
        have J35 : ∀ (σ_35 : zq_S), (zx_T σ_35) → (∀ a i : Int, (¬ (a = 0 ∧ i = 26) ∧ ¬ (a = 0 ∧ i = 27) ∧ ¬ (a = 0 ∧ i = 30) ∧ a ≠ 15 ∧ a ≠ 16 ∧ a ≠ 18) → σ_35 a i = σ a i) → (zx_M σ_35) → (zx_O σ_35) → (zx_K σ_35) → (zx_W σ_35) → (zq_hid (∃ μ, zs_cn zs_Rr x2_16 σ μ ∧ zx_T μ ∧ (∀ a i, a ≠ 18 → ¬ (a = 0 ∧ i = 30) → σ_35 a i = μ a i) ∧ (x2_16 < n → zs_rno μ))) → V 35 [none, none, some (ZI x2_16)] [] 41 σ_35 := by
          intro σ_35 hσ_35 hFσ_35 Mσ_35 Oσ_35 Kσ_35 Wσ_35 hi35_0
          show V 35 [none, none, some (ZI x2_16)] [] 41 σ_35
          refine zr_iload_n (pc := 35) hV dX12_run_35 rfl rfl ?_
          refine zr_if_ne (pc := 36) hV 44 dX12_run_36 (by decide) (by omega) (fun c2 => ?_) (fun c2 => ?_)
          · show V 44 [none, none, some (ZI x2_16)] [] 41 σ_35
            refine zr_iload_n (pc := 44) hV dX12_run_44 rfl rfl ?_
            show V 45 [none, none, some (ZI x2_16)] [ZI x2_16] 41 σ_35
            exact zr_iret (pc := 45) hV dX12_run_45 rfl rfl ⟨_, rfl, (by omega), hσ_35, hFσ_35, trivial, (show (¬ (1 ≤ n ∧ n ≤ 2000) → x2_16 = -1 ∧ ∀ a i, σ_35 a i = σ a i) ∧ (1 ≤ n ∧ n ≤ 2000 → ∃ d μ, 0 ≤ d ∧ d ≤ n ∧ x2_16 = (if d = 0 then -5 else d) ∧ zs_cn zs_Rr d σ μ ∧ zx_T μ ∧ (∀ a i, a ≠ 18 → ¬ (a = 0 ∧ i = 30) → σ_35 a i = μ a i) ∧ (d < n → zs_rno μ)) from ⟨fun h => absurd (by omega) h, fun _ => by obtain ⟨μ, m1, m2, m3, m4⟩ := hi35_0; exact ⟨x2_16, μ, by omega, by omega, by first | rw [if_pos (by omega)] | rw [if_neg (by omega)], m1, m2, m3, m4⟩⟩), Mσ_35, Oσ_35, Kσ_35, Wσ_35⟩
          · show V 39 [none, none, some (ZI x2_16)] [] 41 σ_35
            refine zr_bipush (pc := 39) hV (-5) dX12_run_39 (by decide) ?_
            refine zr_goto (pc := 41) hV 45 dX12_run_41 (by decide) ?_
            show V 45 [none, none, some (ZI x2_16)] [ZI (-5)] 41 σ_35
            exact zr_iret (pc := 45) hV dX12_run_45 rfl rfl ⟨_, rfl, ⟨by decide, by decide⟩, hσ_35, hFσ_35, trivial, (show (¬ (1 ≤ n ∧ n ≤ 2000) → ((-5) : Int) = -1 ∧ ∀ a i, σ_35 a i = σ a i) ∧ (1 ≤ n ∧ n ≤ 2000 → ∃ d μ, 0 ≤ d ∧ d ≤ n ∧ ((-5) : Int) = (if d = 0 then -5 else d) ∧ zs_cn zs_Rr d σ μ ∧ zx_T μ ∧ (∀ a i, a ≠ 18 → ¬ (a = 0 ∧ i = 30) → σ_35 a i = μ a i) ∧ (d < n → zs_rno μ)) from ⟨fun h => absurd (by omega) h, fun _ => by obtain ⟨μ, m1, m2, m3, m4⟩ := hi35_0; exact ⟨x2_16, μ, by omega, by omega, by first | rw [if_pos (by omega)] | rw [if_neg (by omega)], m1, m2, m3, m4⟩⟩), Mσ_35, Oσ_35, Kσ_35, Wσ_35⟩
        refine zr_icmp_ge (pc := 18) hV 35 dX12_run_18 (by decide) (by omega) (by omega) (fun c3 => ?_) (fun c3 => ?_)
        · refine zr_sub (pc := 35) hV [none, none, some (ZI x2_16)] (⟨rfl, trivial⟩) ?_
          exact J35 σ_16 hσ_16 hFσ_16 Mσ_16 Oσ_16 Kσ_16 Wσ_16 ⟨σ_16, hi16_0, hσ_16, fun _ _ _ _ => rfl, fun h => absurd h (by omega)⟩
        · show V 21 [some (ZR 0), some (ZI n), some (ZI x2_16)] [] 41 σ_16
          refine zr_aload_n (pc := 21) hV dX12_run_21 rfl rfl ?_
          refine zr_iconst (pc := 22) hV 1 dX12_run_22 rfl ?_
          refine zr_callVi (pc := 23) hV [ZI 1] (st := []) (c_X12_doStep3 (σ := σ_16) hσ_16 1 (by omega) hi16_1 (zs_gg_fr (hFσ_16 0 3 (by omega)) (fun i => hFσ_16 3 i (by omega)) (fun i => hFσ_16 4 i (by omega)) q2) Mσ_16 Oσ_16 Kσ_16 Wσ_16) dX12_run_23 mX12_382 rfl (by decide) (by decide) (Nat.le_of_ble_eq_true rfl) (Nat.le_refl _) (fun r23 σ23 hr23 pσ23 => ?_)
          obtain ⟨hσ23, hfσ23, pσ23, wσ23, Mσ23, Oσ23, Kσ23, Wσ23⟩ := pσ23
          have hFσ23 : ∀ a i : Int, (¬ (a = 0 ∧ i = 26) ∧ ¬ (a = 0 ∧ i = 27) ∧ ¬ (a = 0 ∧ i = 30) ∧ a ≠ 15 ∧ a ≠ 16 ∧ a ≠ 18) → σ23 a i = σ a i := fun a i h => (hfσ23 a i ⟨h.1, h.2.1, h.2.2.1, h.2.2.2.1, h.2.2.2.2.1, h.2.2.2.2.2⟩).trans (hFσ_16 a i h)
          refine zr_if_eq (pc := 26) hV 35 dX12_run_26 (by decide) (by omega) (fun c4 => ?_) (fun c4 => ?_)
          · refine zr_sub (pc := 35) hV [none, none, some (ZI x2_16)] (⟨rfl, trivial⟩) ?_
            exact J35 σ23 hσ23 hFσ23 Mσ23 Oσ23 Kσ23 Wσ23 ⟨σ_16, hi16_0, hσ_16, (wσ23.1 (by omega)).2, fun _ => (wσ23.1 (by omega)).1⟩
          · show V 29 [some (ZR 0), some (ZI n), some (ZI x2_16)] [] 41 σ23
            refine zr_iinc (pc := 29) hV [some (ZR 0), some (ZI n), some (ZI (x2_16 + 1))] (x2_16 + 1) dX12_run_29 rfl rfl (by decide) rfl rfl ?_
            refine zr_goto (pc := 32) hV 16 dX12_run_32 (by decide) ?_
            exact ih16 (x2_16 + 1) σ23 (by omega) hσ23 hFσ23 Mσ23 Oσ23 Kσ23 Wσ23 (zs_cn_s (by omega) hi16_0 ⟨hσ_16, hσ23, Oσ_16, Kσ_16, (fun a i h1 h2 h3 h4 => hfσ23 a i (by omega)), wσ23.2 (by omega)⟩) (zs_la_st (wσ23.2 (by omega))) (by omega) (by omega)
    exact L16 (2000 - (0 : Int) + 1 : Int).toNat 0 σ (by omega) hσ (fun a i _ => rfl) Mσ Oσ Kσ Wσ (zs_cn_0 _ σ) q1 (by omega) (by omega)
  · show V 12 [some (ZR 0), some (ZI n), none] [] 41 σ
    refine zr_iconst (pc := 12) hV (-1) dX12_run_12 rfl ?_
    exact zr_iret (pc := 13) hV dX12_run_13 rfl rfl ⟨_, rfl, ⟨by decide, by decide⟩, hσ, (fun a i _ => rfl), trivial, (show (¬ (1 ≤ n ∧ n ≤ 2000) → ((-1) : Int) = -1 ∧ ∀ a i, σ a i = σ a i) ∧ (1 ≤ n ∧ n ≤ 2000 → ∃ d μ, 0 ≤ d ∧ d ≤ n ∧ ((-1) : Int) = (if d = 0 then -5 else d) ∧ zs_cn zs_Rr d σ μ ∧ zx_T μ ∧ (∀ a i, a ≠ 18 → ¬ (a = 0 ∧ i = 30) → σ a i = μ a i) ∧ (d < n → zs_rno μ)) from ⟨fun _ => ⟨rfl, fun _ _ => rfl⟩, fun h => absurd h (by omega)⟩), Mσ, Oσ, Kσ, Wσ⟩
set_option maxHeartbeats 800000 in
theorem c_X12_back2 {σ : zq_S} (hσ : zx_T σ) (n : Int) (q0 : zq_in n) : zq_C zx_w yX12_back cX12_back 3 (some .int) 1 25 41 41 [ZR 0, ZI n] σ (zq_pi (fun r τ => zx_T τ ∧ (∀ a i : Int, (¬ (a = 0 ∧ i = 26) ∧ ¬ (a = 0 ∧ i = 27) ∧ a ≠ 15) → τ a i = σ a i) ∧ (True) ∧ zq_hid ((¬ (1 ≤ n ∧ n ≤ 100) → r = -1 ∧ ∀ a i, τ a i = σ a i) ∧ (1 ≤ n ∧ n ≤ 100 → (σ 0 26 < n → r = -2 ∧ ∀ a i, τ a i = σ a i) ∧ (n ≤ σ 0 26 → r = σ 0 26 - n ∧ τ 0 26 = σ 0 26 - n ∧ τ 0 27 = ((σ 0 27 + 100 - n) % 100) ∧ ∀ i, 0 ≤ i → i < 336 → τ 15 i = if i = 270 then 0 else σ 16 (336 * ((σ 0 27 + 100 - n) % 100) + i)))))) := by
  refine zq_C_of (by decide) (Nat.le_refl _) (Nat.le_of_ble_eq_true rfl) [some (ZR 0), some (ZI n), none] rfl (fun V hV => ?_)
  have z26 := zx_g26 hσ
  have z27 := zx_g27 hσ
  show V 0 [some (ZR 0), some (ZI n), none] [] 41 σ
  refine zr_iload_n (pc := 0) hV dX12_back_0 rfl rfl ?_
  refine zr_i2l (pc := 1) hV dX12_back_1 (by omega) ?_
  refine zr_lconst (pc := 2) hV 1 dX12_back_2 (by decide) ?_
  refine zr_ldc2 (pc := 3) (v := 100) hV 100 dX12_back_3 kX12_386 (by decide) ?_
  refine zr_callSp (pc := 6) hV [ZL n, ZL 1, ZL 100] (st := []) (c_X12_in (σ := σ) n 1 100 (by omega) (by omega) (by omega)) dX12_back_6 mX12_170 (by decide) (Nat.le_of_ble_eq_true rfl) (Nat.le_refl _) (fun r6 hr6 pr6 => ?_)
  refine zr_if_ne (pc := 9) hV 14 dX12_back_9 (by decide) (by omega) (fun c1 => ?_) (fun c1 => ?_)
  · show V 14 [some (ZR 0), some (ZI n), none] [] 41 σ
    refine zr_iload_n (pc := 14) hV dX12_back_14 rfl rfl ?_
    refine zr_aload_n (pc := 15) hV dX12_back_15 rfl rfl ?_
    refine zr_getI (pc := 16) hV 26 dX12_back_16 fX12_341 rfl rfl rfl (by decide) ?_
    have t2 := zx_g26 hσ
    refine zr_icmp_le (pc := 19) hV 25 dX12_back_19 (by decide) (by omega) (by omega) (fun c3 => ?_) (fun c3 => ?_)
    · show V 25 [some (ZR 0), some (ZI n), none] [] 41 σ
      refine zr_aload_n (pc := 25) hV dX12_back_25 rfl rfl ?_
      refine zr_aload_n (pc := 26) hV dX12_back_26 rfl rfl ?_
      refine zr_getI (pc := 27) hV 27 dX12_back_27 fX12_365 rfl rfl rfl (by decide) ?_
      have t4 := zx_g27 hσ
      refine zr_bipush (pc := 30) hV 100 dX12_back_30 (by decide) ?_
      refine zr_iadd (pc := 32) hV dX12_back_32 ?_
      refine zr_iload_n (pc := 33) hV dX12_back_33 rfl rfl ?_
      refine zr_isub (pc := 34) hV dX12_back_34 ?_
      refine zr_bipush (pc := 35) hV 100 dX12_back_35 (by decide) ?_
      refine zr_irem (pc := 37) hV dX12_back_37 ⟨by decide, by decide⟩ (by omega) ?_
      have t5 := zq_rem_c (x := ((σ 0 27) + 100) - n) 100 (by decide) (by omega)
      refine zr_putI (pc := 38) hV 27 dX12_back_38 fX12_365 rfl rfl rfl rfl (by decide) (fun σ38 eσ38 => ?_)
      have hσ38 : zx_T σ38 := zx_u27 eσ38 hσ (by omega)
      have hFσ38 : ∀ a i : Int, (¬ (a = 0 ∧ i = 26) ∧ ¬ (a = 0 ∧ i = 27) ∧ a ≠ 15) → σ38 a i = σ a i := fun a i h => by rw [eσ38, zq_up_ne h.2.1]
      refine zr_aload_n (pc := 41) hV dX12_back_41 rfl rfl ?_
      refine zr_dup (pc := 42) hV dX12_back_42 (fun _ => rfl) ?_
      refine zr_getI (pc := 43) hV 26 dX12_back_43 fX12_341 rfl rfl rfl (by decide) ?_
      have t6 := zx_g26 hσ38
      have t7 : σ38 0 26 = σ 0 26 := by rw [eσ38]; exact zq_up_ne (by omega)
      refine zr_iload_n (pc := 46) hV dX12_back_46 rfl rfl ?_
      refine zr_isub (pc := 47) hV dX12_back_47 ?_
      refine zr_putI (pc := 48) hV 26 dX12_back_48 fX12_341 rfl rfl rfl rfl (by decide) (fun σ48 eσ48 => ?_)
      have hσ48 : zx_T σ48 := zx_u26 eσ48 hσ38 (by omega)
      have hFσ48 : ∀ a i : Int, (¬ (a = 0 ∧ i = 26) ∧ ¬ (a = 0 ∧ i = 27) ∧ a ≠ 15) → σ48 a i = σ a i := fun a i h => by rw [eσ48, zq_up_ne h.1]; exact hFσ38 a i h
      refine zr_iconst (pc := 51) hV 0 dX12_back_51 rfl ?_
      refine zr_istore_n (pc := 52) hV [some (ZR 0), some (ZI n), some (ZI 0)] dX12_back_52 rfl (by decide) rfl rfl ?_
      have L53 : ∀ (fuel : Nat) (x2_53 : Int) (σ_53 : zq_S), (0 ≤ x2_53 ∧ x2_53 ≤ 336) → (zx_T σ_53) → (∀ a i : Int, (¬ (a = 0 ∧ i = 26) ∧ ¬ (a = 0 ∧ i = 27) ∧ a ≠ 15) → σ_53 a i = σ a i) → (zq_hid (∀ i, 0 ≤ i → i < x2_53 → σ_53 15 i = σ 16 (336 * ((σ 0 27 + 100 - n) % 100) + i))) → (σ_53 0 27 = ((σ 0 27 + 100 - n) % 100)) → (σ_53 0 26 = σ 0 26 - n) → (x2_53 ≤ 336) → 336 - x2_53 < (fuel : Int) → V 53 [some (ZR 0), none, some (ZI x2_53)] [] 41 σ_53 := by
        intro fuel
        induction fuel with
        | zero =>
          intro x2_53 σ_53 hx2_53 hσ_53 hFσ_53 hi53_0 hi53_1 hi53_2 hi53_3 hm53
          exfalso; omega
        | succ fuel ih =>
          intro x2_53 σ_53 hx2_53 hσ_53 hFσ_53 hi53_0 hi53_1 hi53_2 hi53_3 hm53
          have ih53 := ih
          show V 53 [some (ZR 0), none, some (ZI x2_53)] [] 41 σ_53
          refine zr_iload_n (pc := 53) hV dX12_back_53 rfl rfl ?_
          refine zr_sipush (pc := 54) hV 336 dX12_back_54 (by decide) ?_
          refine zr_icmp_ge (pc := 57) hV 87 dX12_back_57 (by decide) (by omega) ⟨by decide, by decide⟩ (fun c8 => ?_) (fun c8 => ?_)
          · show V 87 [some (ZR 0), none, some (ZI x2_53)] [] 41 σ_53
            refine zr_aload_n (pc := 87) hV dX12_back_87 rfl rfl ?_
            refine zr_getR (pc := 88) hV 24 15 dX12_back_88 fX12_62 rfl rfl rfl (by decide) (zx_g24 hσ_53) (by omega) ?_
            refine zr_sipush (pc := 91) hV 270 dX12_back_91 (by decide) ?_
            refine zr_iconst (pc := 94) hV 0 dX12_back_94 rfl ?_
            refine zr_iast (pc := 95) hV dX12_back_95 rfl (by decide) rfl (by omega) (fun σ95 eσ95 => ?_)
            have hσ95 : zx_T σ95 := zx_ua15 eσ95 hσ_53 (by omega)
            have hFσ95 : ∀ a i : Int, (¬ (a = 0 ∧ i = 26) ∧ ¬ (a = 0 ∧ i = 27) ∧ a ≠ 15) → σ95 a i = σ a i := fun a i h => by rw [eσ95, zq_up_ne (fun q => h.2.2 q.1)]; exact hFσ_53 a i h
            refine zr_aload_n (pc := 96) hV dX12_back_96 rfl rfl ?_
            refine zr_getI (pc := 97) hV 26 dX12_back_97 fX12_341 rfl rfl rfl (by decide) ?_
            have t9 := zx_g26 hσ95
            have t10 : σ95 0 26 = σ_53 0 26 := by rw [eσ95]; exact zq_up_ne (by omega)
            have t11 := zx_g26 hσ95
            have t12 : σ95 0 26 = σ_53 0 26 := by rw [eσ95]; exact zq_up_ne (by omega)
            have t13 := zx_g27 hσ95
            have t14 : σ95 0 27 = σ_53 0 27 := by rw [eσ95]; exact zq_up_ne (by omega)
            exact zr_iret (pc := 100) hV dX12_back_100 rfl rfl ⟨_, rfl, (by omega), hσ95, hFσ95, trivial, (show (¬ (1 ≤ n ∧ n ≤ 100) → (σ95 0 26) = -1 ∧ ∀ a i, σ95 a i = σ a i) ∧ (1 ≤ n ∧ n ≤ 100 → (σ 0 26 < n → (σ95 0 26) = -2 ∧ ∀ a i, σ95 a i = σ a i) ∧ (n ≤ σ 0 26 → (σ95 0 26) = σ 0 26 - n ∧ σ95 0 26 = σ 0 26 - n ∧ σ95 0 27 = ((σ 0 27 + 100 - n) % 100) ∧ ∀ i, 0 ≤ i → i < 336 → σ95 15 i = if i = 270 then 0 else σ 16 (336 * ((σ 0 27 + 100 - n) % 100) + i))) from ⟨fun h => absurd (by omega) h, fun _ => ⟨fun h => absurd h (by omega), fun _ => ⟨by omega, by omega, by omega, fun i i0 i1 => if hc : i = 270 then (by rw [if_pos hc, hc, eσ95, zq_up_same]) else (by rw [if_neg hc, eσ95, zq_up_ne (by omega)]; exact hi53_0 i i0 (by omega))⟩⟩⟩)⟩
          · show V 60 [some (ZR 0), none, some (ZI x2_53)] [] 41 σ_53
            refine zr_aload_n (pc := 60) hV dX12_back_60 rfl rfl ?_
            refine zr_getR (pc := 61) hV 24 15 dX12_back_61 fX12_62 rfl rfl rfl (by decide) (zx_g24 hσ_53) (by omega) ?_
            refine zr_iload_n (pc := 64) hV dX12_back_64 rfl rfl ?_
            refine zr_aload_n (pc := 65) hV dX12_back_65 rfl rfl ?_
            refine zr_getR (pc := 66) hV 25 16 dX12_back_66 fX12_66 rfl rfl rfl (by decide) (zx_g25 hσ_53) (by omega) ?_
            refine zr_sipush (pc := 69) hV 336 dX12_back_69 (by decide) ?_
            refine zr_aload_n (pc := 72) hV dX12_back_72 rfl rfl ?_
            refine zr_getI (pc := 73) hV 27 dX12_back_73 fX12_365 rfl rfl rfl (by decide) ?_
            have t15 := zx_g27 hσ_53
            refine zr_imul (pc := 76) hV dX12_back_76 ?_
            refine zr_iload_n (pc := 77) hV dX12_back_77 rfl rfl ?_
            refine zr_iadd (pc := 78) hV dX12_back_78 ?_
            refine zr_iald (pc := 79) hV dX12_back_79 rfl (by decide) rfl (by omega) ?_
            have t16 := zx_ga16 hσ_53 ((336 * (σ_53 0 27)) + x2_53)
            have t17 : σ_53 16 ((336 * (σ_53 0 27)) + x2_53) = σ 16 ((336 * (σ_53 0 27)) + x2_53) := hFσ_53 _ _ (by omega)
            refine zr_iast (pc := 80) hV dX12_back_80 rfl (by decide) rfl (by omega) (fun σ80 eσ80 => ?_)
            have hσ80 : zx_T σ80 := zx_ua15 eσ80 hσ_53 (by omega)
            have hFσ80 : ∀ a i : Int, (¬ (a = 0 ∧ i = 26) ∧ ¬ (a = 0 ∧ i = 27) ∧ a ≠ 15) → σ80 a i = σ a i := fun a i h => by rw [eσ80, zq_up_ne (fun q => h.2.2 q.1)]; exact hFσ_53 a i h
            refine zr_iinc (pc := 81) hV [some (ZR 0), none, some (ZI (x2_53 + 1))] (x2_53 + 1) dX12_back_81 rfl rfl (by decide) rfl rfl ?_
            refine zr_goto (pc := 84) hV 53 dX12_back_84 (by decide) ?_
            have t18 := zx_g27 hσ80
            have t19 : σ80 0 27 = σ_53 0 27 := by rw [eσ80]; exact zq_up_ne (by omega)
            have t20 := zx_g26 hσ80
            have t21 : σ80 0 26 = σ_53 0 26 := by rw [eσ80]; exact zq_up_ne (by omega)
            exact ih53 (x2_53 + 1) σ80 (by omega) hσ80 hFσ80 (fun i i0 i1 => if hc : i = x2_53 then (by rw [hc, eσ80, zq_up_same, show 336 * ((σ 0 27 + 100 - n) % 100) + x2_53 = 336 * σ_53 0 27 + x2_53 by omega]; omega) else (by rw [eσ80, zq_up_ne (by omega)]; exact hi53_0 i i0 (by omega))) (by omega) (by omega) (by omega) (by omega)
      have t22 := zx_g27 hσ48
      have t23 : σ48 0 27 = σ38 0 27 := by rw [eσ48]; exact zq_up_ne (by omega)
      have t24 : σ38 0 27 = zq_rem (((σ 0 27) + 100) - n) 100 := by rw [eσ38]; exact zq_up_same _ _ _ _
      have t25 := zx_g26 hσ48
      have t26 : σ48 0 26 = (σ38 0 26) - n := by rw [eσ48]; exact zq_up_same _ _ _ _
      refine zr_sub (pc := 53) hV [some (ZR 0), none, some (ZI 0)] (⟨rfl, rfl, trivial⟩) ?_
      exact L53 (336 - (0 : Int) + 1 : Int).toNat 0 σ48 (by omega) hσ48 hFσ48 (fun i i0 i1 => absurd i1 (by omega)) (by omega) (by omega) (by omega) (by omega)
    · show V 22 [some (ZR 0), some (ZI n), none] [] 41 σ
      refine zr_bipush (pc := 22) hV (-2) dX12_back_22 (by decide) ?_
      have t27 := zx_g26 hσ
      have t28 := zx_g27 hσ
      exact zr_iret (pc := 24) hV dX12_back_24 rfl rfl ⟨_, rfl, ⟨by decide, by decide⟩, hσ, (fun a i _ => rfl), trivial, (show (¬ (1 ≤ n ∧ n ≤ 100) → ((-2) : Int) = -1 ∧ ∀ a i, σ a i = σ a i) ∧ (1 ≤ n ∧ n ≤ 100 → (σ 0 26 < n → ((-2) : Int) = -2 ∧ ∀ a i, σ a i = σ a i) ∧ (n ≤ σ 0 26 → ((-2) : Int) = σ 0 26 - n ∧ σ 0 26 = σ 0 26 - n ∧ σ 0 27 = ((σ 0 27 + 100 - n) % 100) ∧ ∀ i, 0 ≤ i → i < 336 → σ 15 i = if i = 270 then 0 else σ 16 (336 * ((σ 0 27 + 100 - n) % 100) + i))) from ⟨fun h => absurd (by omega) h, fun _ => ⟨fun _ => ⟨rfl, fun _ _ => rfl⟩, fun h => absurd h (by omega)⟩⟩)⟩
  · show V 12 [some (ZR 0), some (ZI n), none] [] 41 σ
    refine zr_iconst (pc := 12) hV (-1) dX12_back_12 rfl ?_
    have t29 := zx_g26 hσ
    have t30 := zx_g27 hσ
    exact zr_iret (pc := 13) hV dX12_back_13 rfl rfl ⟨_, rfl, ⟨by decide, by decide⟩, hσ, (fun a i _ => rfl), trivial, (show (¬ (1 ≤ n ∧ n ≤ 100) → ((-1) : Int) = -1 ∧ ∀ a i, σ a i = σ a i) ∧ (1 ≤ n ∧ n ≤ 100 → (σ 0 26 < n → ((-1) : Int) = -2 ∧ ∀ a i, σ a i = σ a i) ∧ (n ≤ σ 0 26 → ((-1) : Int) = σ 0 26 - n ∧ σ 0 26 = σ 0 26 - n ∧ σ 0 27 = ((σ 0 27 + 100 - n) % 100) ∧ ∀ i, 0 ≤ i → i < 336 → σ 15 i = if i = 270 then 0 else σ 16 (336 * ((σ 0 27 + 100 - n) % 100) + i))) from ⟨fun _ => ⟨rfl, fun _ _ => rfl⟩, fun h => absurd h (by omega)⟩)⟩
set_option maxHeartbeats 800000 in
theorem c_X12_placeOf2 {σ : zq_S} (hσ : zx_T σ) (what i : Int) (q0 : zq_in what) (q1 : zq_in i) : zq_C zx_w yX12_placeOf cX12_placeOf 3 (some .int) 1 25 41 41 [ZR 0, ZI what, ZI i] σ (zq_pp σ (fun r => -1 ≤ r ∧ r ≤ 265 ∧ (r = 264 → what = 2) ∧ (r = 265 → what = 3) ∧ (what = 2 → r = 264) ∧ (what = 3 → r = 265) ∧ r = zs_pl (zx_p2 (σ 0 1)) (zx_p2 (σ 0 0) - 1) what i)) := by
  refine zq_C_of (by decide) (Nat.le_refl _) (Nat.le_of_ble_eq_true rfl) [some (ZR 0), some (ZI what), some (ZI i)] rfl (fun V hV => ?_)
  have zk1 := zx_g1 hσ
  have zw0 := zx_g0 hσ
  have zp1 := (zx_shl_one (y := σ 0 1) 3 8 (by decide) (by decide) (by omega))
  have zp0 := (zx_shl_one (y := σ 0 0) 8 256 (by decide) (by decide) (by omega))
  show V 0 [some (ZR 0), some (ZI what), some (ZI i)] [] 41 σ
  refine zr_iload_n (pc := 0) hV dX12_placeOf_0 rfl rfl ?_
  by_cases c1 : what = 0
  · refine zr_eqI (V := V) 0 c1 ?_
    refine zr_tableIn (pc := 1) hV 32 dX12_placeOf_1 ⟨by decide, by decide⟩ (by decide) (by decide) rfl (by decide) ?_
    show V 32 [some (ZR 0), some (ZI what), some (ZI i)] [] 41 σ
    refine zr_iload_n (pc := 32) hV dX12_placeOf_32 rfl rfl ?_
    refine zr_i2l (pc := 33) hV dX12_placeOf_33 (by omega) ?_
    refine zr_lconst (pc := 34) hV 0 dX12_placeOf_34 (by decide) ?_
    refine zr_iconst (pc := 35) hV 1 dX12_placeOf_35 rfl ?_
    refine zr_aload_n (pc := 36) hV dX12_placeOf_36 rfl rfl ?_
    refine zr_getI (pc := 37) hV 1 dX12_placeOf_37 fX12_13 rfl rfl rfl (by decide) ?_
    have t2 := zx_g1 hσ
    refine zr_ishl (pc := 40) hV dX12_placeOf_40 ?_
    have t3 := zx_shl_one (y := σ 0 1) 3 8 (by decide) (by decide) (by omega)
    refine zr_iconst (pc := 41) hV 1 dX12_placeOf_41 rfl ?_
    refine zr_isub (pc := 42) hV dX12_placeOf_42 ?_
    refine zr_i2l (pc := 43) hV dX12_placeOf_43 (by omega) ?_
    refine zr_callSp (pc := 44) hV [ZL i, ZL 0, ZL ((zq_shl 1 (σ 0 1)) - 1)] (st := []) (c_X12_in (σ := σ) i 0 ((zq_shl 1 (σ 0 1)) - 1) (by omega) (by omega) (by omega)) dX12_placeOf_44 mX12_170 (by decide) (Nat.le_of_ble_eq_true rfl) (Nat.le_refl _) (fun r44 hr44 pr44 => ?_)
    refine zr_if_eq (pc := 47) hV 54 dX12_placeOf_47 (by decide) (by omega) (fun c4 => ?_) (fun c4 => ?_)
    · show V 54 [some (ZR 0), some (ZI what), some (ZI i)] [] 41 σ
      refine zr_iconst (pc := 54) hV (-1) dX12_placeOf_54 rfl ?_
      show V 55 [some (ZR 0), some (ZI what), some (ZI i)] [ZI (-1)] 41 σ
      exact zr_iret (pc := 55) hV dX12_placeOf_55 rfl rfl ⟨rfl, _, rfl, ⟨by decide, by decide⟩, ⟨by omega, by omega, by omega, by omega, by omega, by omega, by unfold zs_pl; repeat (first | rw [if_pos (by omega)] | rw [if_neg (by omega)])⟩⟩
    · show V 50 [some (ZR 0), some (ZI what), some (ZI i)] [] 41 σ
      refine zr_iload_n (pc := 50) hV dX12_placeOf_50 rfl rfl ?_
      refine zr_goto (pc := 51) hV 55 dX12_placeOf_51 (by decide) ?_
      show V 55 [some (ZR 0), some (ZI what), some (ZI i)] [ZI i] 41 σ
      exact zr_iret (pc := 55) hV dX12_placeOf_55 rfl rfl ⟨rfl, _, rfl, (by omega), ⟨by omega, by omega, by omega, by omega, by omega, by omega, by unfold zs_pl; repeat (first | rw [if_pos (by omega)] | rw [if_neg (by omega)])⟩⟩
  by_cases c5 : what = 1
  · refine zr_eqI (V := V) 1 c5 ?_
    refine zr_tableIn (pc := 1) hV 56 dX12_placeOf_1 ⟨by decide, by decide⟩ (by decide) (by decide) rfl (by decide) ?_
    show V 56 [some (ZR 0), some (ZI what), some (ZI i)] [] 41 σ
    refine zr_iload_n (pc := 56) hV dX12_placeOf_56 rfl rfl ?_
    refine zr_i2l (pc := 57) hV dX12_placeOf_57 (by omega) ?_
    refine zr_lconst (pc := 58) hV 0 dX12_placeOf_58 (by decide) ?_
    refine zr_aload_n (pc := 59) hV dX12_placeOf_59 rfl rfl ?_
    refine zr_callVp (pc := 60) hV [] (st := [ZL 0, ZL i]) (c_X12_mask2 (σ := σ) hσ ) dX12_placeOf_60 mX12_346 rfl (by decide) (by decide) (Nat.le_of_ble_eq_true rfl) (Nat.le_refl _) (fun r60 hr60 pr60 => ?_)
    have t6 := zx_g0 hσ
    refine zr_i2l (pc := 63) hV dX12_placeOf_63 (by omega) ?_
    refine zr_callSp (pc := 64) hV [ZL i, ZL 0, ZL r60] (st := []) (c_X12_in (σ := σ) i 0 r60 (by omega) (by omega) (by omega)) dX12_placeOf_64 mX12_170 (by decide) (Nat.le_of_ble_eq_true rfl) (Nat.le_refl _) (fun r64 hr64 pr64 => ?_)
    refine zr_if_eq (pc := 67) hV 77 dX12_placeOf_67 (by decide) (by omega) (fun c7 => ?_) (fun c7 => ?_)
    · show V 77 [some (ZR 0), some (ZI what), some (ZI i)] [] 41 σ
      refine zr_iconst (pc := 77) hV (-1) dX12_placeOf_77 rfl ?_
      show V 78 [some (ZR 0), some (ZI what), some (ZI i)] [ZI (-1)] 41 σ
      exact zr_iret (pc := 78) hV dX12_placeOf_78 rfl rfl ⟨rfl, _, rfl, ⟨by decide, by decide⟩, ⟨by omega, by omega, by omega, by omega, by omega, by omega, by unfold zs_pl; repeat (first | rw [if_pos (by omega)] | rw [if_neg (by omega)])⟩⟩
    · show V 70 [some (ZR 0), some (ZI what), some (ZI i)] [] 41 σ
      refine zr_bipush (pc := 70) hV 8 dX12_placeOf_70 (by decide) ?_
      refine zr_iload_n (pc := 72) hV dX12_placeOf_72 rfl rfl ?_
      refine zr_iadd (pc := 73) hV dX12_placeOf_73 ?_
      refine zr_goto (pc := 74) hV 78 dX12_placeOf_74 (by decide) ?_
      show V 78 [some (ZR 0), some (ZI what), some (ZI i)] [ZI (8 + i)] 41 σ
      exact zr_iret (pc := 78) hV dX12_placeOf_78 rfl rfl ⟨rfl, _, rfl, (by omega), ⟨by omega, by omega, by omega, by omega, by omega, by omega, by unfold zs_pl; repeat (first | rw [if_pos (by omega)] | rw [if_neg (by omega)])⟩⟩
  by_cases c8 : what = 2
  · refine zr_eqI (V := V) 2 c8 ?_
    refine zr_tableIn (pc := 1) hV 79 dX12_placeOf_1 ⟨by decide, by decide⟩ (by decide) (by decide) rfl (by decide) ?_
    show V 79 [some (ZR 0), some (ZI what), some (ZI i)] [] 41 σ
    refine zr_sipush (pc := 79) hV 264 dX12_placeOf_79 (by decide) ?_
    exact zr_iret (pc := 82) hV dX12_placeOf_82 rfl rfl ⟨rfl, _, rfl, ⟨by decide, by decide⟩, ⟨by omega, by omega, by omega, by omega, by omega, by omega, by unfold zs_pl; repeat (first | rw [if_pos (by omega)] | rw [if_neg (by omega)])⟩⟩
  by_cases c9 : what = 3
  · refine zr_eqI (V := V) 3 c9 ?_
    refine zr_tableIn (pc := 1) hV 83 dX12_placeOf_1 ⟨by decide, by decide⟩ (by decide) (by decide) rfl (by decide) ?_
    show V 83 [some (ZR 0), some (ZI what), some (ZI i)] [] 41 σ
    refine zr_sipush (pc := 83) hV 265 dX12_placeOf_83 (by decide) ?_
    exact zr_iret (pc := 86) hV dX12_placeOf_86 rfl rfl ⟨rfl, _, rfl, ⟨by decide, by decide⟩, ⟨by omega, by omega, by omega, by omega, by omega, by omega, by unfold zs_pl; repeat (first | rw [if_pos (by omega)] | rw [if_neg (by omega)])⟩⟩
  refine zr_tableOut (pc := 1) hV 87 dX12_placeOf_1 (by omega) (by omega) (by decide) ?_
  show V 87 [some (ZR 0), some (ZI what), some (ZI i)] [] 41 σ
  refine zr_iconst (pc := 87) hV (-1) dX12_placeOf_87 rfl ?_
  exact zr_iret (pc := 88) hV dX12_placeOf_88 rfl rfl ⟨rfl, _, rfl, ⟨by decide, by decide⟩, ⟨by omega, by omega, by omega, by omega, by omega, by omega, by unfold zs_pl; repeat (first | rw [if_pos (by omega)] | rw [if_neg (by omega)])⟩⟩
set_option maxHeartbeats 800000 in
theorem c_X12_get2 {σ : zq_S} (hσ : zx_T σ) (what i : Int) (q0 : zq_in what) (q1 : zq_in i) : zq_C zx_w yX12_get cX12_get 4 (some .int) 2 47 41 41 [ZR 0, ZI what, ZI i] σ (zq_pp σ (fun r => r = zs_gt (σ 15) (zx_p2 (σ 0 1)) (zx_p2 (σ 0 0) - 1) what i)) := by
  refine zq_C_of (by decide) (Nat.le_refl _) (Nat.le_of_ble_eq_true rfl) [some (ZR 0), some (ZI what), some (ZI i), none] rfl (fun V hV => ?_)
  show V 0 [some (ZR 0), some (ZI what), some (ZI i), none] [] 41 σ
  refine zr_aload_n (pc := 0) hV dX12_get_0 rfl rfl ?_
  refine zr_iload_n (pc := 1) hV dX12_get_1 rfl rfl ?_
  refine zr_iload_n (pc := 2) hV dX12_get_2 rfl rfl ?_
  refine zr_callVp (pc := 3) hV [ZI what, ZI i] (st := []) (c_X12_placeOf2 (σ := σ) hσ what i (by omega) (by omega)) dX12_get_3 mX12_349 rfl (by decide) (by decide) (Nat.le_of_ble_eq_true rfl) (Nat.le_refl _) (fun r3 hr3 pr3 => ?_)
  have t1 := zx_g0 hσ
  have t2 := zx_g1 hσ
  refine zr_istore_n (pc := 6) hV [some (ZR 0), some (ZI what), some (ZI i), some (ZI r3)] dX12_get_6 rfl (by decide) rfl rfl ?_
  refine zr_iload_n (pc := 7) hV dX12_get_7 rfl rfl ?_
  refine zr_if_ge (pc := 8) hV 15 dX12_get_8 (by decide) (by omega) (fun c3 => ?_) (fun c3 => ?_)
  · show V 15 [some (ZR 0), some (ZI what), some (ZI i), some (ZI r3)] [] 41 σ
    refine zr_aload_n (pc := 15) hV dX12_get_15 rfl rfl ?_
    refine zr_getR (pc := 16) hV 24 15 dX12_get_16 fX12_62 rfl rfl rfl (by decide) (zx_g24 hσ) (by omega) ?_
    refine zr_iload_n (pc := 19) hV dX12_get_19 rfl rfl ?_
    refine zr_iald (pc := 20) hV dX12_get_20 rfl (by decide) rfl (by omega) ?_
    have t4 := zx_st hσ r3
    show V 21 [some (ZR 0), some (ZI what), some (ZI i), some (ZI r3)] [ZI (σ 15 r3)] 41 σ
    exact zr_iret (pc := 21) hV dX12_get_21 rfl rfl ⟨rfl, _, rfl, (by omega), (by unfold zs_gt; rw [← pr3.2.2.2.2.2.2]; first | rw [if_pos (by omega)] | rw [if_neg (by omega)])⟩
  · show V 11 [some (ZR 0), some (ZI what), some (ZI i), some (ZI r3)] [] 41 σ
    refine zr_iconst (pc := 11) hV (-1) dX12_get_11 rfl ?_
    refine zr_goto (pc := 12) hV 21 dX12_get_12 (by decide) ?_
    show V 21 [some (ZR 0), some (ZI what), some (ZI i), some (ZI r3)] [ZI (-1)] 41 σ
    exact zr_iret (pc := 21) hV dX12_get_21 rfl rfl ⟨rfl, _, rfl, ⟨by decide, by decide⟩, (by unfold zs_gt; rw [← pr3.2.2.2.2.2.2]; first | rw [if_pos (by omega)] | rw [if_neg (by omega)])⟩
set_option maxHeartbeats 800000 in
theorem c_X12_set2 {σ : zq_S} (hσ : zx_T σ) (what i v : Int) (q0 : zq_in what) (q1 : zq_in i) (q2 : zq_in v) : zq_C zx_w yX12_set cX12_set 7 (some .int) 2 47 41 41 [ZR 0, ZI what, ZI i, ZI v] σ (zq_pi (fun r τ => zx_T τ ∧ (∀ a i : Int, (¬ (a = 0 ∧ i = 26) ∧ a ≠ 15) → τ a i = σ a i) ∧ (True) ∧ zq_hid ((zs_pl (zx_p2 (σ 0 1)) (zx_p2 (σ 0 0) - 1) what i < 0 ∨ v < 0 ∨ zs_mo what (zx_p2 (σ 0 0) - 1) < v → r = -1 ∧ ∀ a i, τ a i = σ a i) ∧ (¬ (zs_pl (zx_p2 (σ 0 1)) (zx_p2 (σ 0 0) - 1) what i < 0 ∨ v < 0 ∨ zs_mo what (zx_p2 (σ 0 0) - 1) < v) → r = σ 15 (zs_pl (zx_p2 (σ 0 1)) (zx_p2 (σ 0 0) - 1) what i) ∧ (∀ j, τ 15 j = if j = 270 then 0 else if j = zs_pl (zx_p2 (σ 0 1)) (zx_p2 (σ 0 0) - 1) what i then v else σ 15 j) ∧ τ 0 26 = 0)))) := by
  refine zq_C_of (by decide) (Nat.le_refl _) (Nat.le_of_ble_eq_true rfl) [some (ZR 0), some (ZI what), some (ZI i), some (ZI v), none, none, none] rfl (fun V hV => ?_)
  show V 0 [some (ZR 0), some (ZI what), some (ZI i), some (ZI v), none, none, none] [] 41 σ
  refine zr_aload_n (pc := 0) hV dX12_set_0 rfl rfl ?_
  refine zr_iload_n (pc := 1) hV dX12_set_1 rfl rfl ?_
  refine zr_iload_n (pc := 2) hV dX12_set_2 rfl rfl ?_
  refine zr_callVp (pc := 3) hV [ZI what, ZI i] (st := []) (c_X12_placeOf2 (σ := σ) hσ what i (by omega) (by omega)) dX12_set_3 mX12_349 rfl (by decide) (by decide) (Nat.le_of_ble_eq_true rfl) (Nat.le_refl _) (fun r3 hr3 pr3 => ?_)
  have t1 := zx_g0 hσ
  have t2 := zx_g1 hσ
  refine zr_istore (pc := 6) hV [some (ZR 0), some (ZI what), some (ZI i), some (ZI v), some (ZI r3), none, none] dX12_set_6 (by decide) rfl rfl ?_
  refine zr_iload_n (pc := 8) hV dX12_set_8 rfl rfl ?_
  refine zr_iconst (pc := 9) hV 2 dX12_set_9 rfl ?_
  refine zr_icmp_ne (pc := 10) hV 17 dX12_set_10 (by decide) (by omega) ⟨by decide, by decide⟩ (fun c3 => ?_) (fun c3 => ?_)
  · show V 17 [some (ZR 0), some (ZI what), some (ZI i), some (ZI v), some (ZI r3), none, none] [] 41 σ
    refine zr_iload_n (pc := 17) hV dX12_set_17 rfl rfl ?_
    refine zr_iconst (pc := 18) hV 3 dX12_set_18 rfl ?_
    refine zr_icmp_ne (pc := 19) hV 27 dX12_set_19 (by decide) (by omega) ⟨by decide, by decide⟩ (fun c4 => ?_) (fun c4 => ?_)
    · show V 27 [some (ZR 0), some (ZI what), some (ZI i), some (ZI v), some (ZI r3), none, none] [] 41 σ
      refine zr_aload_n (pc := 27) hV dX12_set_27 rfl rfl ?_
      refine zr_callVp (pc := 28) hV [] (st := []) (c_X12_mask2 (σ := σ) hσ ) dX12_set_28 mX12_346 rfl (by decide) (by decide) (Nat.le_of_ble_eq_true rfl) (Nat.le_refl _) (fun r28 hr28 pr28 => ?_)
      have t5 := zx_g0 hσ
      show V 31 [some (ZR 0), some (ZI what), some (ZI i), some (ZI v), some (ZI r3), none, none] [ZI r28] 41 σ
      refine zr_istore (pc := 31) hV [some (ZR 0), some (ZI what), some (ZI i), some (ZI v), some (ZI r3), some (ZI r28), none] dX12_set_31 (by decide) rfl rfl ?_
      refine zr_iload (pc := 33) hV dX12_set_33 rfl ?_
      refine zr_if_lt (pc := 35) hV 50 dX12_set_35 (by decide) (by omega) (fun c6 => ?_) (fun c6 => ?_)
      · show V 50 [some (ZR 0), some (ZI what), some (ZI i), some (ZI v), some (ZI r3), some (ZI r28), none] [] 41 σ
        refine zr_iconst (pc := 50) hV (-1) dX12_set_50 rfl ?_
        have t7 := zx_g26 hσ
        exact zr_iret (pc := 51) hV dX12_set_51 rfl rfl ⟨_, rfl, ⟨by decide, by decide⟩, hσ, (fun a i _ => rfl), trivial, (show (zs_pl (zx_p2 (σ 0 1)) (zx_p2 (σ 0 0) - 1) what i < 0 ∨ v < 0 ∨ zs_mo what (zx_p2 (σ 0 0) - 1) < v → ((-1) : Int) = -1 ∧ ∀ a i, σ a i = σ a i) ∧ (¬ (zs_pl (zx_p2 (σ 0 1)) (zx_p2 (σ 0 0) - 1) what i < 0 ∨ v < 0 ∨ zs_mo what (zx_p2 (σ 0 0) - 1) < v) → ((-1) : Int) = σ 15 (zs_pl (zx_p2 (σ 0 1)) (zx_p2 (σ 0 0) - 1) what i) ∧ (∀ j, σ 15 j = if j = 270 then 0 else if j = zs_pl (zx_p2 (σ 0 1)) (zx_p2 (σ 0 0) - 1) what i then v else σ 15 j) ∧ σ 0 26 = 0) from (by have pe := pr3.2.2.2.2.2.2; have mo : zs_mo what (zx_p2 (σ 0 0) - 1) = r28 := (by unfold zs_mo; rw [if_neg (by omega), if_neg (by omega)]; omega); exact ⟨fun _ => ⟨rfl, fun _ _ => rfl⟩, fun h => absurd (by omega) h⟩))⟩
      · show V 38 [some (ZR 0), some (ZI what), some (ZI i), some (ZI v), some (ZI r3), some (ZI r28), none] [] 41 σ
        refine zr_iload_n (pc := 38) hV dX12_set_38 rfl rfl ?_
        refine zr_i2l (pc := 39) hV dX12_set_39 (by omega) ?_
        refine zr_lconst (pc := 40) hV 0 dX12_set_40 (by decide) ?_
        refine zr_iload (pc := 41) hV dX12_set_41 rfl ?_
        refine zr_i2l (pc := 43) hV dX12_set_43 (by omega) ?_
        refine zr_callSp (pc := 44) hV [ZL v, ZL 0, ZL r28] (st := []) (c_X12_in (σ := σ) v 0 r28 (by omega) (by omega) (by omega)) dX12_set_44 mX12_170 (by decide) (Nat.le_of_ble_eq_true rfl) (Nat.le_refl _) (fun r44 hr44 pr44 => ?_)
        refine zr_if_ne (pc := 47) hV 52 dX12_set_47 (by decide) (by omega) (fun c8 => ?_) (fun c8 => ?_)
        · show V 52 [some (ZR 0), some (ZI what), some (ZI i), some (ZI v), some (ZI r3), some (ZI r28), none] [] 41 σ
          refine zr_aload_n (pc := 52) hV dX12_set_52 rfl rfl ?_
          refine zr_getR (pc := 53) hV 24 15 dX12_set_53 fX12_62 rfl rfl rfl (by decide) (zx_g24 hσ) (by omega) ?_
          refine zr_iload (pc := 56) hV dX12_set_56 rfl ?_
          refine zr_iald (pc := 58) hV dX12_set_58 rfl (by decide) rfl (by omega) ?_
          have t9 := zx_st hσ r3
          refine zr_istore (pc := 59) hV [some (ZR 0), some (ZI what), some (ZI i), some (ZI v), some (ZI r3), some (ZI r28), some (ZI (σ 15 r3))] dX12_set_59 (by decide) rfl rfl ?_
          refine zr_aload_n (pc := 61) hV dX12_set_61 rfl rfl ?_
          refine zr_getR (pc := 62) hV 24 15 dX12_set_62 fX12_62 rfl rfl rfl (by decide) (zx_g24 hσ) (by omega) ?_
          refine zr_iload (pc := 65) hV dX12_set_65 rfl ?_
          refine zr_iload_n (pc := 67) hV dX12_set_67 rfl rfl ?_
          refine zr_iast (pc := 68) hV dX12_set_68 rfl (by decide) rfl (by omega) (fun σ68 eσ68 => ?_)
          have hσ68 : zx_T σ68 := zx_ua15 eσ68 hσ (by omega)
          have hFσ68 : ∀ a i : Int, (¬ (a = 0 ∧ i = 26) ∧ a ≠ 15) → σ68 a i = σ a i := fun a i h => by rw [eσ68, zq_up_ne (fun q => h.2 q.1)]
          refine zr_aload_n (pc := 69) hV dX12_set_69 rfl rfl ?_
          refine zr_iconst (pc := 70) hV 0 dX12_set_70 rfl ?_
          refine zr_putI (pc := 71) hV 26 dX12_set_71 fX12_341 rfl rfl rfl rfl (by decide) (fun σ71 eσ71 => ?_)
          have hσ71 : zx_T σ71 := zx_u26 eσ71 hσ68 (by omega)
          have hFσ71 : ∀ a i : Int, (¬ (a = 0 ∧ i = 26) ∧ a ≠ 15) → σ71 a i = σ a i := fun a i h => by rw [eσ71, zq_up_ne h.1]; exact hFσ68 a i h
          refine zr_aload_n (pc := 74) hV dX12_set_74 rfl rfl ?_
          refine zr_getR (pc := 75) hV 24 15 dX12_set_75 fX12_62 rfl rfl rfl (by decide) (zx_g24 hσ71) (by omega) ?_
          refine zr_sipush (pc := 78) hV 270 dX12_set_78 (by decide) ?_
          refine zr_iconst (pc := 81) hV 0 dX12_set_81 rfl ?_
          refine zr_iast (pc := 82) hV dX12_set_82 rfl (by decide) rfl (by omega) (fun σ82 eσ82 => ?_)
          have hσ82 : zx_T σ82 := zx_ua15 eσ82 hσ71 (by omega)
          have hFσ82 : ∀ a i : Int, (¬ (a = 0 ∧ i = 26) ∧ a ≠ 15) → σ82 a i = σ a i := fun a i h => by rw [eσ82, zq_up_ne (fun q => h.2 q.1)]; exact hFσ71 a i h
          refine zr_iload (pc := 83) hV dX12_set_83 rfl ?_
          have t10 := zx_g26 hσ82
          have t11 : σ82 0 26 = σ71 0 26 := by rw [eσ82]; exact zq_up_ne (by omega)
          have t12 : σ71 0 26 = 0 := by rw [eσ71]; exact zq_up_same _ _ _ _
          exact zr_iret (pc := 85) hV dX12_set_85 rfl rfl ⟨_, rfl, (by omega), hσ82, hFσ82, trivial, (show (zs_pl (zx_p2 (σ 0 1)) (zx_p2 (σ 0 0) - 1) what i < 0 ∨ v < 0 ∨ zs_mo what (zx_p2 (σ 0 0) - 1) < v → (σ 15 r3) = -1 ∧ ∀ a i, σ82 a i = σ a i) ∧ (¬ (zs_pl (zx_p2 (σ 0 1)) (zx_p2 (σ 0 0) - 1) what i < 0 ∨ v < 0 ∨ zs_mo what (zx_p2 (σ 0 0) - 1) < v) → (σ 15 r3) = σ 15 (zs_pl (zx_p2 (σ 0 1)) (zx_p2 (σ 0 0) - 1) what i) ∧ (∀ j, σ82 15 j = if j = 270 then 0 else if j = zs_pl (zx_p2 (σ 0 1)) (zx_p2 (σ 0 0) - 1) what i then v else σ 15 j) ∧ σ82 0 26 = 0) from (by have pe := pr3.2.2.2.2.2.2; have mo : zs_mo what (zx_p2 (σ 0 0) - 1) = r28 := (by unfold zs_mo; rw [if_neg (by omega), if_neg (by omega)]; omega); exact ⟨fun h => by exfalso; omega, fun _ => ⟨by rw [← pe], fun i => by rw [eσ82, ← pe]; by_cases c : i = 270; (rw [if_pos c, c, zq_up_same]); (rw [if_neg c, zq_up_ne (by omega), eσ71, zq_up_ne (by omega), eσ68]; by_cases c2 : i = r3; (rw [if_pos c2, c2, zq_up_same]); (rw [if_neg c2, zq_up_ne (by omega)])), by rw [eσ82, zq_up_ne (by omega), eσ71, zq_up_same]⟩⟩))⟩
        · show V 50 [some (ZR 0), some (ZI what), some (ZI i), some (ZI v), some (ZI r3), some (ZI r28), none] [] 41 σ
          refine zr_iconst (pc := 50) hV (-1) dX12_set_50 rfl ?_
          have t13 := zx_g26 hσ
          exact zr_iret (pc := 51) hV dX12_set_51 rfl rfl ⟨_, rfl, ⟨by decide, by decide⟩, hσ, (fun a i _ => rfl), trivial, (show (zs_pl (zx_p2 (σ 0 1)) (zx_p2 (σ 0 0) - 1) what i < 0 ∨ v < 0 ∨ zs_mo what (zx_p2 (σ 0 0) - 1) < v → ((-1) : Int) = -1 ∧ ∀ a i, σ a i = σ a i) ∧ (¬ (zs_pl (zx_p2 (σ 0 1)) (zx_p2 (σ 0 0) - 1) what i < 0 ∨ v < 0 ∨ zs_mo what (zx_p2 (σ 0 0) - 1) < v) → ((-1) : Int) = σ 15 (zs_pl (zx_p2 (σ 0 1)) (zx_p2 (σ 0 0) - 1) what i) ∧ (∀ j, σ 15 j = if j = 270 then 0 else if j = zs_pl (zx_p2 (σ 0 1)) (zx_p2 (σ 0 0) - 1) what i then v else σ 15 j) ∧ σ 0 26 = 0) from (by have pe := pr3.2.2.2.2.2.2; have mo : zs_mo what (zx_p2 (σ 0 0) - 1) = r28 := (by unfold zs_mo; rw [if_neg (by omega), if_neg (by omega)]; omega); exact ⟨fun _ => ⟨rfl, fun _ _ => rfl⟩, fun h => absurd (by omega) h⟩))⟩
    · show V 22 [some (ZR 0), some (ZI what), some (ZI i), some (ZI v), some (ZI r3), none, none] [] 41 σ
      refine zr_bipush (pc := 22) hV 63 dX12_set_22 (by decide) ?_
      refine zr_goto (pc := 24) hV 31 dX12_set_24 (by decide) ?_
      show V 31 [some (ZR 0), some (ZI what), some (ZI i), some (ZI v), some (ZI r3), none, none] [ZI 63] 41 σ
      refine zr_istore (pc := 31) hV [some (ZR 0), some (ZI what), some (ZI i), some (ZI v), some (ZI r3), some (ZI 63), none] dX12_set_31 (by decide) rfl rfl ?_
      refine zr_iload (pc := 33) hV dX12_set_33 rfl ?_
      refine zr_if_lt (pc := 35) hV 50 dX12_set_35 (by decide) (by omega) (fun c14 => ?_) (fun c14 => ?_)
      · show V 50 [some (ZR 0), some (ZI what), some (ZI i), some (ZI v), some (ZI r3), some (ZI 63), none] [] 41 σ
        refine zr_iconst (pc := 50) hV (-1) dX12_set_50 rfl ?_
        have t15 := zx_g26 hσ
        exact zr_iret (pc := 51) hV dX12_set_51 rfl rfl ⟨_, rfl, ⟨by decide, by decide⟩, hσ, (fun a i _ => rfl), trivial, (show (zs_pl (zx_p2 (σ 0 1)) (zx_p2 (σ 0 0) - 1) what i < 0 ∨ v < 0 ∨ zs_mo what (zx_p2 (σ 0 0) - 1) < v → ((-1) : Int) = -1 ∧ ∀ a i, σ a i = σ a i) ∧ (¬ (zs_pl (zx_p2 (σ 0 1)) (zx_p2 (σ 0 0) - 1) what i < 0 ∨ v < 0 ∨ zs_mo what (zx_p2 (σ 0 0) - 1) < v) → ((-1) : Int) = σ 15 (zs_pl (zx_p2 (σ 0 1)) (zx_p2 (σ 0 0) - 1) what i) ∧ (∀ j, σ 15 j = if j = 270 then 0 else if j = zs_pl (zx_p2 (σ 0 1)) (zx_p2 (σ 0 0) - 1) what i then v else σ 15 j) ∧ σ 0 26 = 0) from (by have pe := pr3.2.2.2.2.2.2; have mo : zs_mo what (zx_p2 (σ 0 0) - 1) = 63 := (by unfold zs_mo; rw [if_neg (by omega), if_pos (by omega)]); exact ⟨fun _ => ⟨rfl, fun _ _ => rfl⟩, fun h => absurd (by omega) h⟩))⟩
      · show V 38 [some (ZR 0), some (ZI what), some (ZI i), some (ZI v), some (ZI r3), some (ZI 63), none] [] 41 σ
        refine zr_iload_n (pc := 38) hV dX12_set_38 rfl rfl ?_
        refine zr_i2l (pc := 39) hV dX12_set_39 (by omega) ?_
        refine zr_lconst (pc := 40) hV 0 dX12_set_40 (by decide) ?_
        refine zr_iload (pc := 41) hV dX12_set_41 rfl ?_
        refine zr_i2l (pc := 43) hV dX12_set_43 ⟨by decide, by decide⟩ ?_
        refine zr_callSp (pc := 44) hV [ZL v, ZL 0, ZL 63] (st := []) (c_X12_in (σ := σ) v 0 63 (by omega) (by omega) (by omega)) dX12_set_44 mX12_170 (by decide) (Nat.le_of_ble_eq_true rfl) (Nat.le_refl _) (fun r44 hr44 pr44 => ?_)
        refine zr_if_ne (pc := 47) hV 52 dX12_set_47 (by decide) (by omega) (fun c16 => ?_) (fun c16 => ?_)
        · show V 52 [some (ZR 0), some (ZI what), some (ZI i), some (ZI v), some (ZI r3), some (ZI 63), none] [] 41 σ
          refine zr_aload_n (pc := 52) hV dX12_set_52 rfl rfl ?_
          refine zr_getR (pc := 53) hV 24 15 dX12_set_53 fX12_62 rfl rfl rfl (by decide) (zx_g24 hσ) (by omega) ?_
          refine zr_iload (pc := 56) hV dX12_set_56 rfl ?_
          refine zr_iald (pc := 58) hV dX12_set_58 rfl (by decide) rfl (by omega) ?_
          have t17 := zx_st hσ r3
          refine zr_istore (pc := 59) hV [some (ZR 0), some (ZI what), some (ZI i), some (ZI v), some (ZI r3), some (ZI 63), some (ZI (σ 15 r3))] dX12_set_59 (by decide) rfl rfl ?_
          refine zr_aload_n (pc := 61) hV dX12_set_61 rfl rfl ?_
          refine zr_getR (pc := 62) hV 24 15 dX12_set_62 fX12_62 rfl rfl rfl (by decide) (zx_g24 hσ) (by omega) ?_
          refine zr_iload (pc := 65) hV dX12_set_65 rfl ?_
          refine zr_iload_n (pc := 67) hV dX12_set_67 rfl rfl ?_
          refine zr_iast (pc := 68) hV dX12_set_68 rfl (by decide) rfl (by omega) (fun σ68 eσ68 => ?_)
          have hσ68 : zx_T σ68 := zx_ua15 eσ68 hσ (by omega)
          have hFσ68 : ∀ a i : Int, (¬ (a = 0 ∧ i = 26) ∧ a ≠ 15) → σ68 a i = σ a i := fun a i h => by rw [eσ68, zq_up_ne (fun q => h.2 q.1)]
          refine zr_aload_n (pc := 69) hV dX12_set_69 rfl rfl ?_
          refine zr_iconst (pc := 70) hV 0 dX12_set_70 rfl ?_
          refine zr_putI (pc := 71) hV 26 dX12_set_71 fX12_341 rfl rfl rfl rfl (by decide) (fun σ71 eσ71 => ?_)
          have hσ71 : zx_T σ71 := zx_u26 eσ71 hσ68 (by omega)
          have hFσ71 : ∀ a i : Int, (¬ (a = 0 ∧ i = 26) ∧ a ≠ 15) → σ71 a i = σ a i := fun a i h => by rw [eσ71, zq_up_ne h.1]; exact hFσ68 a i h
          refine zr_aload_n (pc := 74) hV dX12_set_74 rfl rfl ?_
          refine zr_getR (pc := 75) hV 24 15 dX12_set_75 fX12_62 rfl rfl rfl (by decide) (zx_g24 hσ71) (by omega) ?_
          refine zr_sipush (pc := 78) hV 270 dX12_set_78 (by decide) ?_
          refine zr_iconst (pc := 81) hV 0 dX12_set_81 rfl ?_
          refine zr_iast (pc := 82) hV dX12_set_82 rfl (by decide) rfl (by omega) (fun σ82 eσ82 => ?_)
          have hσ82 : zx_T σ82 := zx_ua15 eσ82 hσ71 (by omega)
          have hFσ82 : ∀ a i : Int, (¬ (a = 0 ∧ i = 26) ∧ a ≠ 15) → σ82 a i = σ a i := fun a i h => by rw [eσ82, zq_up_ne (fun q => h.2 q.1)]; exact hFσ71 a i h
          refine zr_iload (pc := 83) hV dX12_set_83 rfl ?_
          have t18 := zx_g26 hσ82
          have t19 : σ82 0 26 = σ71 0 26 := by rw [eσ82]; exact zq_up_ne (by omega)
          have t20 : σ71 0 26 = 0 := by rw [eσ71]; exact zq_up_same _ _ _ _
          exact zr_iret (pc := 85) hV dX12_set_85 rfl rfl ⟨_, rfl, (by omega), hσ82, hFσ82, trivial, (show (zs_pl (zx_p2 (σ 0 1)) (zx_p2 (σ 0 0) - 1) what i < 0 ∨ v < 0 ∨ zs_mo what (zx_p2 (σ 0 0) - 1) < v → (σ 15 r3) = -1 ∧ ∀ a i, σ82 a i = σ a i) ∧ (¬ (zs_pl (zx_p2 (σ 0 1)) (zx_p2 (σ 0 0) - 1) what i < 0 ∨ v < 0 ∨ zs_mo what (zx_p2 (σ 0 0) - 1) < v) → (σ 15 r3) = σ 15 (zs_pl (zx_p2 (σ 0 1)) (zx_p2 (σ 0 0) - 1) what i) ∧ (∀ j, σ82 15 j = if j = 270 then 0 else if j = zs_pl (zx_p2 (σ 0 1)) (zx_p2 (σ 0 0) - 1) what i then v else σ 15 j) ∧ σ82 0 26 = 0) from (by have pe := pr3.2.2.2.2.2.2; have mo : zs_mo what (zx_p2 (σ 0 0) - 1) = 63 := (by unfold zs_mo; rw [if_neg (by omega), if_pos (by omega)]); exact ⟨fun h => by exfalso; omega, fun _ => ⟨by rw [← pe], fun i => by rw [eσ82, ← pe]; by_cases c : i = 270; (rw [if_pos c, c, zq_up_same]); (rw [if_neg c, zq_up_ne (by omega), eσ71, zq_up_ne (by omega), eσ68]; by_cases c2 : i = r3; (rw [if_pos c2, c2, zq_up_same]); (rw [if_neg c2, zq_up_ne (by omega)])), by rw [eσ82, zq_up_ne (by omega), eσ71, zq_up_same]⟩⟩))⟩
        · show V 50 [some (ZR 0), some (ZI what), some (ZI i), some (ZI v), some (ZI r3), some (ZI 63), none] [] 41 σ
          refine zr_iconst (pc := 50) hV (-1) dX12_set_50 rfl ?_
          have t21 := zx_g26 hσ
          exact zr_iret (pc := 51) hV dX12_set_51 rfl rfl ⟨_, rfl, ⟨by decide, by decide⟩, hσ, (fun a i _ => rfl), trivial, (show (zs_pl (zx_p2 (σ 0 1)) (zx_p2 (σ 0 0) - 1) what i < 0 ∨ v < 0 ∨ zs_mo what (zx_p2 (σ 0 0) - 1) < v → ((-1) : Int) = -1 ∧ ∀ a i, σ a i = σ a i) ∧ (¬ (zs_pl (zx_p2 (σ 0 1)) (zx_p2 (σ 0 0) - 1) what i < 0 ∨ v < 0 ∨ zs_mo what (zx_p2 (σ 0 0) - 1) < v) → ((-1) : Int) = σ 15 (zs_pl (zx_p2 (σ 0 1)) (zx_p2 (σ 0 0) - 1) what i) ∧ (∀ j, σ 15 j = if j = 270 then 0 else if j = zs_pl (zx_p2 (σ 0 1)) (zx_p2 (σ 0 0) - 1) what i then v else σ 15 j) ∧ σ 0 26 = 0) from (by have pe := pr3.2.2.2.2.2.2; have mo : zs_mo what (zx_p2 (σ 0 0) - 1) = 63 := (by unfold zs_mo; rw [if_neg (by omega), if_pos (by omega)]); exact ⟨fun _ => ⟨rfl, fun _ _ => rfl⟩, fun h => absurd (by omega) h⟩))⟩
  · show V 13 [some (ZR 0), some (ZI what), some (ZI i), some (ZI v), some (ZI r3), none, none] [] 41 σ
    refine zr_iconst (pc := 13) hV 1 dX12_set_13 rfl ?_
    refine zr_goto (pc := 14) hV 31 dX12_set_14 (by decide) ?_
    show V 31 [some (ZR 0), some (ZI what), some (ZI i), some (ZI v), some (ZI r3), none, none] [ZI 1] 41 σ
    refine zr_istore (pc := 31) hV [some (ZR 0), some (ZI what), some (ZI i), some (ZI v), some (ZI r3), some (ZI 1), none] dX12_set_31 (by decide) rfl rfl ?_
    refine zr_iload (pc := 33) hV dX12_set_33 rfl ?_
    refine zr_if_lt (pc := 35) hV 50 dX12_set_35 (by decide) (by omega) (fun c22 => ?_) (fun c22 => ?_)
    · show V 50 [some (ZR 0), some (ZI what), some (ZI i), some (ZI v), some (ZI r3), some (ZI 1), none] [] 41 σ
      refine zr_iconst (pc := 50) hV (-1) dX12_set_50 rfl ?_
      have t23 := zx_g26 hσ
      exact zr_iret (pc := 51) hV dX12_set_51 rfl rfl ⟨_, rfl, ⟨by decide, by decide⟩, hσ, (fun a i _ => rfl), trivial, (show (zs_pl (zx_p2 (σ 0 1)) (zx_p2 (σ 0 0) - 1) what i < 0 ∨ v < 0 ∨ zs_mo what (zx_p2 (σ 0 0) - 1) < v → ((-1) : Int) = -1 ∧ ∀ a i, σ a i = σ a i) ∧ (¬ (zs_pl (zx_p2 (σ 0 1)) (zx_p2 (σ 0 0) - 1) what i < 0 ∨ v < 0 ∨ zs_mo what (zx_p2 (σ 0 0) - 1) < v) → ((-1) : Int) = σ 15 (zs_pl (zx_p2 (σ 0 1)) (zx_p2 (σ 0 0) - 1) what i) ∧ (∀ j, σ 15 j = if j = 270 then 0 else if j = zs_pl (zx_p2 (σ 0 1)) (zx_p2 (σ 0 0) - 1) what i then v else σ 15 j) ∧ σ 0 26 = 0) from (by have pe := pr3.2.2.2.2.2.2; have mo : zs_mo what (zx_p2 (σ 0 0) - 1) = 1 := (by unfold zs_mo; rw [if_pos (by omega)]); exact ⟨fun _ => ⟨rfl, fun _ _ => rfl⟩, fun h => absurd (by omega) h⟩))⟩
    · show V 38 [some (ZR 0), some (ZI what), some (ZI i), some (ZI v), some (ZI r3), some (ZI 1), none] [] 41 σ
      refine zr_iload_n (pc := 38) hV dX12_set_38 rfl rfl ?_
      refine zr_i2l (pc := 39) hV dX12_set_39 (by omega) ?_
      refine zr_lconst (pc := 40) hV 0 dX12_set_40 (by decide) ?_
      refine zr_iload (pc := 41) hV dX12_set_41 rfl ?_
      refine zr_i2l (pc := 43) hV dX12_set_43 ⟨by decide, by decide⟩ ?_
      refine zr_callSp (pc := 44) hV [ZL v, ZL 0, ZL 1] (st := []) (c_X12_in (σ := σ) v 0 1 (by omega) (by omega) (by omega)) dX12_set_44 mX12_170 (by decide) (Nat.le_of_ble_eq_true rfl) (Nat.le_refl _) (fun r44 hr44 pr44 => ?_)
      refine zr_if_ne (pc := 47) hV 52 dX12_set_47 (by decide) (by omega) (fun c24 => ?_) (fun c24 => ?_)
      · show V 52 [some (ZR 0), some (ZI what), some (ZI i), some (ZI v), some (ZI r3), some (ZI 1), none] [] 41 σ
        refine zr_aload_n (pc := 52) hV dX12_set_52 rfl rfl ?_
        refine zr_getR (pc := 53) hV 24 15 dX12_set_53 fX12_62 rfl rfl rfl (by decide) (zx_g24 hσ) (by omega) ?_
        refine zr_iload (pc := 56) hV dX12_set_56 rfl ?_
        refine zr_iald (pc := 58) hV dX12_set_58 rfl (by decide) rfl (by omega) ?_
        have t25 := zx_st hσ r3
        refine zr_istore (pc := 59) hV [some (ZR 0), some (ZI what), some (ZI i), some (ZI v), some (ZI r3), some (ZI 1), some (ZI (σ 15 r3))] dX12_set_59 (by decide) rfl rfl ?_
        refine zr_aload_n (pc := 61) hV dX12_set_61 rfl rfl ?_
        refine zr_getR (pc := 62) hV 24 15 dX12_set_62 fX12_62 rfl rfl rfl (by decide) (zx_g24 hσ) (by omega) ?_
        refine zr_iload (pc := 65) hV dX12_set_65 rfl ?_
        refine zr_iload_n (pc := 67) hV dX12_set_67 rfl rfl ?_
        refine zr_iast (pc := 68) hV dX12_set_68 rfl (by decide) rfl (by omega) (fun σ68 eσ68 => ?_)
        have hσ68 : zx_T σ68 := zx_ua15 eσ68 hσ (by omega)
        have hFσ68 : ∀ a i : Int, (¬ (a = 0 ∧ i = 26) ∧ a ≠ 15) → σ68 a i = σ a i := fun a i h => by rw [eσ68, zq_up_ne (fun q => h.2 q.1)]
        refine zr_aload_n (pc := 69) hV dX12_set_69 rfl rfl ?_
        refine zr_iconst (pc := 70) hV 0 dX12_set_70 rfl ?_
        refine zr_putI (pc := 71) hV 26 dX12_set_71 fX12_341 rfl rfl rfl rfl (by decide) (fun σ71 eσ71 => ?_)
        have hσ71 : zx_T σ71 := zx_u26 eσ71 hσ68 (by omega)
        have hFσ71 : ∀ a i : Int, (¬ (a = 0 ∧ i = 26) ∧ a ≠ 15) → σ71 a i = σ a i := fun a i h => by rw [eσ71, zq_up_ne h.1]; exact hFσ68 a i h
        refine zr_aload_n (pc := 74) hV dX12_set_74 rfl rfl ?_
        refine zr_getR (pc := 75) hV 24 15 dX12_set_75 fX12_62 rfl rfl rfl (by decide) (zx_g24 hσ71) (by omega) ?_
        refine zr_sipush (pc := 78) hV 270 dX12_set_78 (by decide) ?_
        refine zr_iconst (pc := 81) hV 0 dX12_set_81 rfl ?_
        refine zr_iast (pc := 82) hV dX12_set_82 rfl (by decide) rfl (by omega) (fun σ82 eσ82 => ?_)
        have hσ82 : zx_T σ82 := zx_ua15 eσ82 hσ71 (by omega)
        have hFσ82 : ∀ a i : Int, (¬ (a = 0 ∧ i = 26) ∧ a ≠ 15) → σ82 a i = σ a i := fun a i h => by rw [eσ82, zq_up_ne (fun q => h.2 q.1)]; exact hFσ71 a i h
        refine zr_iload (pc := 83) hV dX12_set_83 rfl ?_
        have t26 := zx_g26 hσ82
        have t27 : σ82 0 26 = σ71 0 26 := by rw [eσ82]; exact zq_up_ne (by omega)
        have t28 : σ71 0 26 = 0 := by rw [eσ71]; exact zq_up_same _ _ _ _
        exact zr_iret (pc := 85) hV dX12_set_85 rfl rfl ⟨_, rfl, (by omega), hσ82, hFσ82, trivial, (show (zs_pl (zx_p2 (σ 0 1)) (zx_p2 (σ 0 0) - 1) what i < 0 ∨ v < 0 ∨ zs_mo what (zx_p2 (σ 0 0) - 1) < v → (σ 15 r3) = -1 ∧ ∀ a i, σ82 a i = σ a i) ∧ (¬ (zs_pl (zx_p2 (σ 0 1)) (zx_p2 (σ 0 0) - 1) what i < 0 ∨ v < 0 ∨ zs_mo what (zx_p2 (σ 0 0) - 1) < v) → (σ 15 r3) = σ 15 (zs_pl (zx_p2 (σ 0 1)) (zx_p2 (σ 0 0) - 1) what i) ∧ (∀ j, σ82 15 j = if j = 270 then 0 else if j = zs_pl (zx_p2 (σ 0 1)) (zx_p2 (σ 0 0) - 1) what i then v else σ 15 j) ∧ σ82 0 26 = 0) from (by have pe := pr3.2.2.2.2.2.2; have mo : zs_mo what (zx_p2 (σ 0 0) - 1) = 1 := (by unfold zs_mo; rw [if_pos (by omega)]); exact ⟨fun h => by exfalso; omega, fun _ => ⟨by rw [← pe], fun i => by rw [eσ82, ← pe]; by_cases c : i = 270; (rw [if_pos c, c, zq_up_same]); (rw [if_neg c, zq_up_ne (by omega), eσ71, zq_up_ne (by omega), eσ68]; by_cases c2 : i = r3; (rw [if_pos c2, c2, zq_up_same]); (rw [if_neg c2, zq_up_ne (by omega)])), by rw [eσ82, zq_up_ne (by omega), eσ71, zq_up_same]⟩⟩))⟩
      · show V 50 [some (ZR 0), some (ZI what), some (ZI i), some (ZI v), some (ZI r3), some (ZI 1), none] [] 41 σ
        refine zr_iconst (pc := 50) hV (-1) dX12_set_50 rfl ?_
        have t29 := zx_g26 hσ
        exact zr_iret (pc := 51) hV dX12_set_51 rfl rfl ⟨_, rfl, ⟨by decide, by decide⟩, hσ, (fun a i _ => rfl), trivial, (show (zs_pl (zx_p2 (σ 0 1)) (zx_p2 (σ 0 0) - 1) what i < 0 ∨ v < 0 ∨ zs_mo what (zx_p2 (σ 0 0) - 1) < v → ((-1) : Int) = -1 ∧ ∀ a i, σ a i = σ a i) ∧ (¬ (zs_pl (zx_p2 (σ 0 1)) (zx_p2 (σ 0 0) - 1) what i < 0 ∨ v < 0 ∨ zs_mo what (zx_p2 (σ 0 0) - 1) < v) → ((-1) : Int) = σ 15 (zs_pl (zx_p2 (σ 0 1)) (zx_p2 (σ 0 0) - 1) what i) ∧ (∀ j, σ 15 j = if j = 270 then 0 else if j = zs_pl (zx_p2 (σ 0 1)) (zx_p2 (σ 0 0) - 1) what i then v else σ 15 j) ∧ σ 0 26 = 0) from (by have pe := pr3.2.2.2.2.2.2; have mo : zs_mo what (zx_p2 (σ 0 0) - 1) = 1 := (by unfold zs_mo; rw [if_pos (by omega)]); exact ⟨fun _ => ⟨rfl, fun _ _ => rfl⟩, fun h => absurd (by omega) h⟩))⟩
set_option maxHeartbeats 800000 in
theorem c_X12_so2 {σ : zq_S} (hσ : zx_T σ) (what : Int) (q0 : zq_in what) : zq_C zx_w yX12_so cX12_so 2 (some .int) 1 25 41 41 [ZR 0, ZI what] σ (zq_pp σ (fun r => zq_hid ((0 ≤ what ∧ what ≤ 3 → r = σ 15 (266 + what)) ∧ (¬ (0 ≤ what ∧ what ≤ 3) → r = -1)))) := by
  refine zq_C_of (by decide) (Nat.le_refl _) (Nat.le_of_ble_eq_true rfl) [some (ZR 0), some (ZI what)] rfl (fun V hV => ?_)
  show V 0 [some (ZR 0), some (ZI what)] [] 41 σ
  refine zr_iload_n (pc := 0) hV dX12_so_0 rfl rfl ?_
  refine zr_i2l (pc := 1) hV dX12_so_1 (by omega) ?_
  refine zr_lconst (pc := 2) hV 0 dX12_so_2 (by decide) ?_
  refine zr_ldc2 (pc := 3) (v := 3) hV 3 dX12_so_3 kX12_174 (by decide) ?_
  refine zr_callSp (pc := 6) hV [ZL what, ZL 0, ZL 3] (st := []) (c_X12_in (σ := σ) what 0 3 (by omega) (by omega) (by omega)) dX12_so_6 mX12_170 (by decide) (Nat.le_of_ble_eq_true rfl) (Nat.le_refl _) (fun r6 hr6 pr6 => ?_)
  refine zr_if_eq (pc := 9) hV 25 dX12_so_9 (by decide) (by omega) (fun c1 => ?_) (fun c1 => ?_)
  · show V 25 [some (ZR 0), some (ZI what)] [] 41 σ
    refine zr_iconst (pc := 25) hV (-1) dX12_so_25 rfl ?_
    show V 26 [some (ZR 0), some (ZI what)] [ZI (-1)] 41 σ
    exact zr_iret (pc := 26) hV dX12_so_26 rfl rfl ⟨rfl, _, rfl, ⟨by decide, by decide⟩, ⟨fun h => by exfalso; omega, fun _ => rfl⟩⟩
  · show V 12 [some (ZR 0), some (ZI what)] [] 41 σ
    refine zr_aload_n (pc := 12) hV dX12_so_12 rfl rfl ?_
    refine zr_getR (pc := 13) hV 24 15 dX12_so_13 fX12_62 rfl rfl rfl (by decide) (zx_g24 hσ) (by omega) ?_
    refine zr_sipush (pc := 16) hV 266 dX12_so_16 (by decide) ?_
    refine zr_iload_n (pc := 19) hV dX12_so_19 rfl rfl ?_
    refine zr_iadd (pc := 20) hV dX12_so_20 ?_
    refine zr_iald (pc := 21) hV dX12_so_21 rfl (by decide) rfl (by omega) ?_
    have t2 := zx_st hσ (266 + what)
    refine zr_goto (pc := 22) hV 26 dX12_so_22 (by decide) ?_
    show V 26 [some (ZR 0), some (ZI what)] [ZI (σ 15 (266 + what))] 41 σ
    exact zr_iret (pc := 26) hV dX12_so_26 rfl rfl ⟨rfl, _, rfl, (by omega), ⟨fun _ => rfl, fun h => by exfalso; omega⟩⟩
set_option maxHeartbeats 800000 in
theorem c_X12_reset3 {σ : zq_S} (hσ : zx_T σ)  : zq_C zx_w yX12_reset cX12_reset 1 (some .int) 1 21 41 41 [ZR 0] σ (zq_pi (fun r τ => zx_T τ ∧ (∀ a i : Int, (¬ (a = 0 ∧ i = 26) ∧ a ≠ 15) → τ a i = σ a i) ∧ (r = 1 ∧ τ 0 26 = 0) ∧ zq_hid ((∀ j, 0 ≤ j → j < 336 → τ 15 j = if 272 ≤ j then (j - 271) % 64 else 0)))) := by
  refine zq_C_of (by decide) (Nat.le_refl _) (Nat.le_of_ble_eq_true rfl) [some (ZR 0)] rfl (fun V hV => ?_)
  show V 0 [some (ZR 0)] [] 41 σ
  refine zr_aload_n (pc := 0) hV dX12_reset_0 rfl rfl ?_
  refine zr_callVv (pc := 1) hV [] (st := []) (c_X12_clearStepper2 (σ := σ) hσ ) dX12_reset_1 mX12_163 rfl (by decide) (by decide) (Nat.le_of_ble_eq_true rfl) (Nat.le_refl _) (fun σ1 pσ1 => ?_)
  obtain ⟨hσ1, hfσ1, pσ1, wσ1⟩ := pσ1
  have hFσ1 : ∀ a i : Int, (¬ (a = 0 ∧ i = 26) ∧ a ≠ 15) → σ1 a i = σ a i := fun a i h => (hfσ1 a i ⟨h.1, h.2⟩)
  have t1 := zx_g26 hσ1
  refine zr_iconst (pc := 4) hV 1 dX12_reset_4 rfl ?_
  have t2 := zx_g26 hσ1
  exact zr_iret (pc := 5) hV dX12_reset_5 rfl rfl ⟨_, rfl, ⟨by decide, by decide⟩, hσ1, hFσ1, (by omega), (show (∀ j, 0 ≤ j → j < 336 → σ1 15 j = if 272 ≤ j then (j - 271) % 64 else 0) from wσ1)⟩
set_option maxHeartbeats 800000 in
theorem c_X12_isSo2 {σ : zq_S} (hσ : zx_T σ) (p : Int) (q0 : 0 ≤ p ∧ p ≤ 117) : zq_C zx_w yX12_isSo cX12_isSo 4 (some .boolean) 1 25 41 41 [ZR 0, ZI p] σ (zq_pp σ (fun r => (r = 0 ∨ r = 1) ∧ (r = 1 ↔ zs_is (σ 40) (σ 15) (zx_p2 (σ 0 1)) p))) := by
  refine zq_C_of (by decide) (Nat.le_refl _) (Nat.le_of_ble_eq_true rfl) [some (ZR 0), some (ZI p), none, none] rfl (fun V hV => ?_)
  have zk1 := zx_g1 hσ
  have zw0 := zx_g0 hσ
  have zp1 := (zx_shl_one (y := σ 0 1) 3 8 (by decide) (by decide) (by omega))
  have zp0 := (zx_shl_one (y := σ 0 0) 8 256 (by decide) (by decide) (by omega))
  show V 0 [some (ZR 0), some (ZI p), none, none] [] 41 σ
  refine zr_aload_n (pc := 0) hV dX12_isSo_0 rfl rfl ?_
  refine zr_getR (pc := 1) hV 64 40 dX12_isSo_1 fX12_144 rfl rfl rfl (by decide) (zx_g64 hσ) (by omega) ?_
  refine zr_iload_n (pc := 4) hV dX12_isSo_4 rfl rfl ?_
  refine zr_iald (pc := 5) hV dX12_isSo_5 rfl (by decide) rfl (by omega) ?_
  have t1 := zx_ga40 hσ p
  refine zr_istore_n (pc := 6) hV [some (ZR 0), some (ZI p), some (ZI (σ 40 p)), none] dX12_isSo_6 rfl (by decide) rfl rfl ?_
  refine zr_aload_n (pc := 7) hV dX12_isSo_7 rfl rfl ?_
  refine zr_getR (pc := 8) hV 64 40 dX12_isSo_8 fX12_144 rfl rfl rfl (by decide) (zx_g64 hσ) (by omega) ?_
  refine zr_iload_n (pc := 11) hV dX12_isSo_11 rfl rfl ?_
  refine zr_iconst (pc := 12) hV 1 dX12_isSo_12 rfl ?_
  refine zr_iadd (pc := 13) hV dX12_isSo_13 ?_
  refine zr_iald (pc := 14) hV dX12_isSo_14 rfl (by decide) rfl (by omega) ?_
  have t2 := zx_ga40 hσ (p + 1)
  refine zr_istore_n (pc := 15) hV [some (ZR 0), some (ZI p), some (ZI (σ 40 p)), some (ZI (σ 40 (p + 1)))] dX12_isSo_15 rfl (by decide) rfl rfl ?_
  refine zr_iload_n (pc := 16) hV dX12_isSo_16 rfl rfl ?_
  refine zr_aload_n (pc := 17) hV dX12_isSo_17 rfl rfl ?_
  refine zr_getR (pc := 18) hV 24 15 dX12_isSo_18 fX12_62 rfl rfl rfl (by decide) (zx_g24 hσ) (by omega) ?_
  refine zr_sipush (pc := 21) hV 265 dX12_isSo_21 (by decide) ?_
  refine zr_iald (pc := 24) hV dX12_isSo_24 rfl (by decide) rfl (by omega) ?_
  have t3 := zx_stP hσ
  refine zr_icmp_ne (pc := 25) hV 67 dX12_isSo_25 (by decide) (by omega) (by omega) (fun c4 => ?_) (fun c4 => ?_)
  · show V 67 [some (ZR 0), some (ZI p), some (ZI (σ 40 p)), some (ZI (σ 40 (p + 1)))] [] 41 σ
    refine zr_iconst (pc := 67) hV 0 dX12_isSo_67 rfl ?_
    show V 68 [some (ZR 0), some (ZI p), some (ZI (σ 40 p)), some (ZI (σ 40 (p + 1)))] [ZI 0] 41 σ
    exact zr_zret (pc := 68) hV dX12_isSo_68 rfl rfl (by omega) ⟨rfl, _, rfl, ⟨by decide, by decide⟩, ⟨by omega, ⟨fun h => absurd h (by decide), fun h => by obtain ⟨h1, h2, h3, h4⟩ := h; exfalso; omega⟩⟩⟩
  · show V 28 [some (ZR 0), some (ZI p), some (ZI (σ 40 p)), some (ZI (σ 40 (p + 1)))] [] 41 σ
    refine zr_iload_n (pc := 28) hV dX12_isSo_28 rfl rfl ?_
    refine zr_i2l (pc := 29) hV dX12_isSo_29 (by omega) ?_
    refine zr_lconst (pc := 30) hV 0 dX12_isSo_30 (by decide) ?_
    refine zr_iconst (pc := 31) hV 1 dX12_isSo_31 rfl ?_
    refine zr_aload_n (pc := 32) hV dX12_isSo_32 rfl rfl ?_
    refine zr_getI (pc := 33) hV 1 dX12_isSo_33 fX12_13 rfl rfl rfl (by decide) ?_
    have t5 := zx_g1 hσ
    refine zr_ishl (pc := 36) hV dX12_isSo_36 ?_
    have t6 := zx_shl_one (y := σ 0 1) 3 8 (by decide) (by decide) (by omega)
    refine zr_iconst (pc := 37) hV 1 dX12_isSo_37 rfl ?_
    refine zr_isub (pc := 38) hV dX12_isSo_38 ?_
    refine zr_i2l (pc := 39) hV dX12_isSo_39 (by omega) ?_
    refine zr_callSp (pc := 40) hV [ZL (σ 40 (p + 1)), ZL 0, ZL ((zq_shl 1 (σ 0 1)) - 1)] (st := []) (c_X12_in (σ := σ) (σ 40 (p + 1)) 0 ((zq_shl 1 (σ 0 1)) - 1) (by omega) (by omega) (by omega)) dX12_isSo_40 mX12_170 (by decide) (Nat.le_of_ble_eq_true rfl) (Nat.le_refl _) (fun r40 hr40 pr40 => ?_)
    refine zr_if_eq (pc := 43) hV 67 dX12_isSo_43 (by decide) (by omega) (fun c7 => ?_) (fun c7 => ?_)
    · show V 67 [some (ZR 0), some (ZI p), some (ZI (σ 40 p)), some (ZI (σ 40 (p + 1)))] [] 41 σ
      refine zr_iconst (pc := 67) hV 0 dX12_isSo_67 rfl ?_
      show V 68 [some (ZR 0), some (ZI p), some (ZI (σ 40 p)), some (ZI (σ 40 (p + 1)))] [ZI 0] 41 σ
      exact zr_zret (pc := 68) hV dX12_isSo_68 rfl rfl (by omega) ⟨rfl, _, rfl, ⟨by decide, by decide⟩, ⟨by omega, ⟨fun h => absurd h (by decide), fun h => by obtain ⟨h1, h2, h3, h4⟩ := h; exfalso; omega⟩⟩⟩
    · show V 46 [some (ZR 0), some (ZI p), some (ZI (σ 40 p)), some (ZI (σ 40 (p + 1)))] [] 41 σ
      refine zr_aload_n (pc := 46) hV dX12_isSo_46 rfl rfl ?_
      refine zr_getR (pc := 47) hV 64 40 dX12_isSo_47 fX12_144 rfl rfl rfl (by decide) (zx_g64 hσ) (by omega) ?_
      refine zr_iload_n (pc := 50) hV dX12_isSo_50 rfl rfl ?_
      refine zr_iconst (pc := 51) hV 2 dX12_isSo_51 rfl ?_
      refine zr_iadd (pc := 52) hV dX12_isSo_52 ?_
      refine zr_iald (pc := 53) hV dX12_isSo_53 rfl (by decide) rfl (by omega) ?_
      have t8 := zx_ga40 hσ (p + 2)
      refine zr_aload_n (pc := 54) hV dX12_isSo_54 rfl rfl ?_
      refine zr_getR (pc := 55) hV 24 15 dX12_isSo_55 fX12_62 rfl rfl rfl (by decide) (zx_g24 hσ) (by omega) ?_
      refine zr_iload_n (pc := 58) hV dX12_isSo_58 rfl rfl ?_
      refine zr_iald (pc := 59) hV dX12_isSo_59 rfl (by decide) rfl (by omega) ?_
      have t9 := zx_stW hσ (σ 40 (p + 1)) (by omega)
      refine zr_icmp_ne (pc := 60) hV 67 dX12_isSo_60 (by decide) (by omega) (by omega) (fun c10 => ?_) (fun c10 => ?_)
      · show V 67 [some (ZR 0), some (ZI p), some (ZI (σ 40 p)), some (ZI (σ 40 (p + 1)))] [] 41 σ
        refine zr_iconst (pc := 67) hV 0 dX12_isSo_67 rfl ?_
        show V 68 [some (ZR 0), some (ZI p), some (ZI (σ 40 p)), some (ZI (σ 40 (p + 1)))] [ZI 0] 41 σ
        exact zr_zret (pc := 68) hV dX12_isSo_68 rfl rfl (by omega) ⟨rfl, _, rfl, ⟨by decide, by decide⟩, ⟨by omega, ⟨fun h => absurd h (by decide), fun h => by obtain ⟨h1, h2, h3, h4⟩ := h; exfalso; omega⟩⟩⟩
      · show V 63 [some (ZR 0), some (ZI p), some (ZI (σ 40 p)), some (ZI (σ 40 (p + 1)))] [] 41 σ
        refine zr_iconst (pc := 63) hV 1 dX12_isSo_63 rfl ?_
        refine zr_goto (pc := 64) hV 68 dX12_isSo_64 (by decide) ?_
        show V 68 [some (ZR 0), some (ZI p), some (ZI (σ 40 p)), some (ZI (σ 40 (p + 1)))] [ZI 1] 41 σ
        exact zr_zret (pc := 68) hV dX12_isSo_68 rfl rfl (by omega) ⟨rfl, _, rfl, ⟨by decide, by decide⟩, ⟨by omega, ⟨fun _ => ⟨by omega, by omega, by omega, by omega⟩, fun _ => rfl⟩⟩⟩
set_option maxHeartbeats 800000 in
theorem c_X12_log3 {σ : zq_S} (hσ : zx_T σ) (sheet lane from_ n : Int) (q0 : zq_in sheet) (q1 : zq_in lane) (q2 : zq_in from_) (q3 : zq_in n) (q4 : zq_hid (zs_la σ)) (q5 : zq_hid (zs_gg σ)) (Mσ : zx_M σ) (Oσ : zx_O σ) (Kσ : zx_K σ) (Wσ : zx_W σ) : zq_C zx_w yX12_log cX12_log 9 (some .int) 5 127 41 41 [ZR 0, ZI sheet, ZI lane, ZI from_, ZI n] σ (zq_pi (fun r τ => zx_T τ ∧ (∀ a i : Int, (¬ (a = 0 ∧ i = 26) ∧ ¬ (a = 0 ∧ i = 27) ∧ ¬ (a = 0 ∧ i = 30) ∧ a ≠ 15 ∧ a ≠ 16 ∧ a ≠ 17 ∧ a ≠ 18) → τ a i = σ a i) ∧ (True) ∧ zq_hid (zs_as σ τ ∧ (¬ (0 ≤ sheet ∧ sheet ≤ 3 ∧ 0 ≤ lane ∧ lane ≤ 2 ∧ 0 ≤ n ∧ n ≤ 10) → r = -1) ∧ ((0 ≤ sheet ∧ sheet ≤ 3 ∧ 0 ≤ lane ∧ lane ≤ 2 ∧ 0 ≤ n ∧ n ≤ 10) → (σ 38 sheet ≠ lane → (σ 38 sheet < 0 → r = -11) ∧ (0 ≤ σ 38 sheet → r = -12)) ∧ (σ 38 sheet = lane → (¬ (0 ≤ from_ ∧ from_ ≤ σ 39 sheet - 3 * n) → r = -13) ∧ (0 ≤ from_ ∧ from_ ≤ σ 39 sheet - 3 * n → ∃ μ, zs_cpr σ μ ∧ zs_rs (zs_rlo (30 * sheet + from_)) zs_rcan (zs_Rl (30 * sheet + from_)) n r μ)))) ∧ zx_M τ ∧ zx_O τ ∧ zx_K τ ∧ zx_W τ)) := by
  refine zq_C_of (by decide) (Nat.le_refl _) (Nat.le_of_ble_eq_true rfl) [some (ZR 0), some (ZI sheet), some (ZI lane), some (ZI from_), some (ZI n), none, none, none, none] rfl (fun V hV => ?_)
  show V 0 [some (ZR 0), some (ZI sheet), some (ZI lane), some (ZI from_), some (ZI n), none, none, none, none] [] 41 σ
  refine zr_iload_n (pc := 0) hV dX12_log_0 rfl rfl ?_
  refine zr_iload_n (pc := 1) hV dX12_log_1 rfl rfl ?_
  refine zr_callSp (pc := 2) hV [ZI sheet, ZI lane] (st := []) (c_X12_isSheet (σ := σ) sheet lane (by omega) (by omega)) dX12_log_2 mX12_480 (by decide) (Nat.le_of_ble_eq_true rfl) (Nat.le_refl _) (fun r2 hr2 pr2 => ?_)
  refine zr_if_eq (pc := 5) hV 21 dX12_log_5 (by decide) (by omega) (fun c1 => ?_) (fun c1 => ?_)
  · show V 21 [some (ZR 0), some (ZI sheet), some (ZI lane), some (ZI from_), some (ZI n), none, none, none, none] [] 41 σ
    refine zr_iconst (pc := 21) hV (-1) dX12_log_21 rfl ?_
    exact zr_iret (pc := 22) hV dX12_log_22 rfl rfl ⟨_, rfl, ⟨by decide, by decide⟩, hσ, (fun a i _ => rfl), trivial, (show zs_as σ σ ∧ (¬ (0 ≤ sheet ∧ sheet ≤ 3 ∧ 0 ≤ lane ∧ lane ≤ 2 ∧ 0 ≤ n ∧ n ≤ 10) → ((-1) : Int) = -1) ∧ ((0 ≤ sheet ∧ sheet ≤ 3 ∧ 0 ≤ lane ∧ lane ≤ 2 ∧ 0 ≤ n ∧ n ≤ 10) → (σ 38 sheet ≠ lane → (σ 38 sheet < 0 → ((-1) : Int) = -11) ∧ (0 ≤ σ 38 sheet → ((-1) : Int) = -12)) ∧ (σ 38 sheet = lane → (¬ (0 ≤ from_ ∧ from_ ≤ σ 39 sheet - 3 * n) → ((-1) : Int) = -13) ∧ (0 ≤ from_ ∧ from_ ≤ σ 39 sheet - 3 * n → ∃ μ, zs_cpr σ μ ∧ zs_rs (zs_rlo (30 * sheet + from_)) zs_rcan (zs_Rl (30 * sheet + from_)) n ((-1) : Int) μ))) from ⟨⟨fun _ _ _ => rfl, fun _ => rfl, rfl, rfl⟩, fun _ => rfl, fun h => by exfalso; omega⟩), Mσ, Oσ, Kσ, Wσ⟩
  · show V 8 [some (ZR 0), some (ZI sheet), some (ZI lane), some (ZI from_), some (ZI n), none, none, none, none] [] 41 σ
    refine zr_iload (pc := 8) hV dX12_log_8 rfl ?_
    refine zr_i2l (pc := 10) hV dX12_log_10 (by omega) ?_
    refine zr_lconst (pc := 11) hV 0 dX12_log_11 (by decide) ?_
    refine zr_ldc2 (pc := 12) (v := 10) hV 10 dX12_log_12 kX12_483 (by decide) ?_
    refine zr_callSp (pc := 15) hV [ZL n, ZL 0, ZL 10] (st := []) (c_X12_in (σ := σ) n 0 10 (by omega) (by omega) (by omega)) dX12_log_15 mX12_170 (by decide) (Nat.le_of_ble_eq_true rfl) (Nat.le_refl _) (fun r15 hr15 pr15 => ?_)
    refine zr_if_ne (pc := 18) hV 23 dX12_log_18 (by decide) (by omega) (fun c2 => ?_) (fun c2 => ?_)
    · show V 23 [some (ZR 0), some (ZI sheet), some (ZI lane), some (ZI from_), some (ZI n), none, none, none, none] [] 41 σ
      refine zr_aload_n (pc := 23) hV dX12_log_23 rfl rfl ?_
      refine zr_iload_n (pc := 24) hV dX12_log_24 rfl rfl ?_
      refine zr_iload_n (pc := 25) hV dX12_log_25 rfl rfl ?_
      refine zr_iload_n (pc := 26) hV dX12_log_26 rfl rfl ?_
      refine zr_iconst (pc := 27) hV 3 dX12_log_27 rfl ?_
      refine zr_iload (pc := 28) hV dX12_log_28 rfl ?_
      refine zr_imul (pc := 30) hV dX12_log_30 ?_
      refine zr_callVp (pc := 31) hV [ZI sheet, ZI lane, ZI from_, ZI (3 * n)] (st := []) (c_X12_against2 (σ := σ) hσ sheet lane from_ (3 * n) (by omega) (by omega) (by omega) (by omega)) dX12_log_31 mX12_485 rfl (by decide) (by decide) (Nat.le_of_ble_eq_true rfl) (Nat.le_refl _) (fun r31 hr31 pr31 => ?_)
      refine zr_istore (pc := 34) hV [some (ZR 0), some (ZI sheet), some (ZI lane), some (ZI from_), some (ZI n), some (ZI r31), none, none, none] dX12_log_34 (by decide) rfl rfl ?_
      refine zr_iload (pc := 36) hV dX12_log_36 rfl ?_
      refine zr_if_ge (pc := 38) hV 44 dX12_log_38 (by decide) (by omega) (fun c3 => ?_) (fun c3 => ?_)
      · show V 44 [some (ZR 0), some (ZI sheet), some (ZI lane), some (ZI from_), some (ZI n), some (ZI r31), none, none, none] [] 41 σ
        refine zr_iconst (pc := 44) hV 0 dX12_log_44 rfl ?_
        refine zr_istore (pc := 45) hV [some (ZR 0), some (ZI sheet), some (ZI lane), some (ZI from_), some (ZI n), some (ZI r31), some (ZI 0), none, none] dX12_log_45 (by decide) rfl rfl ?_
        have L47 : ∀ (fuel : Nat) (x6_47 : Int) (σ_47 : zq_S), (0 ≤ x6_47 ∧ x6_47 ≤ 336) → (zx_T σ_47) → (∀ a i : Int, (¬ (a = 0 ∧ i = 26) ∧ ¬ (a = 0 ∧ i = 27) ∧ ¬ (a = 0 ∧ i = 30) ∧ a ≠ 15 ∧ a ≠ 16 ∧ a ≠ 17 ∧ a ≠ 18) → σ_47 a i = σ a i) → (zx_M σ_47) → (zx_O σ_47) → (zx_K σ_47) → (zx_W σ_47) → (zq_hid (∀ i, 0 ≤ i → i < x6_47 → σ_47 17 i = σ 15 i)) → (zq_hid (∀ a i, a ≠ 17 → σ_47 a i = σ a i)) → 336 - x6_47 < (fuel : Int) → V 47 [some (ZR 0), some (ZI sheet), none, some (ZI from_), some (ZI n), none, some (ZI x6_47), none, none] [] 41 σ_47 := by
          intro fuel
          induction fuel with
          | zero =>
            intro x6_47 σ_47 hx6_47 hσ_47 hFσ_47 Mσ_47 Oσ_47 Kσ_47 Wσ_47 hi47_0 hi47_1 hm47
            exfalso; omega
          | succ fuel ih =>
            intro x6_47 σ_47 hx6_47 hσ_47 hFσ_47 Mσ_47 Oσ_47 Kσ_47 Wσ_47 hi47_0 hi47_1 hm47
            have ih47 := ih
            show V 47 [some (ZR 0), some (ZI sheet), none, some (ZI from_), some (ZI n), none, some (ZI x6_47), none, none] [] 41 σ_47
            refine zr_iload (pc := 47) hV dX12_log_47 rfl ?_
            refine zr_sipush (pc := 49) hV 336 dX12_log_49 (by decide) ?_
            refine zr_icmp_ge (pc := 52) hV 75 dX12_log_52 (by decide) (by omega) ⟨by decide, by decide⟩ (fun c4 => ?_) (fun c4 => ?_)
            · show V 75 [some (ZR 0), some (ZI sheet), none, some (ZI from_), some (ZI n), none, some (ZI x6_47), none, none] [] 41 σ_47
              refine zr_iconst (pc := 75) hV 0 dX12_log_75 rfl ?_
              refine zr_istore (pc := 76) hV [some (ZR 0), some (ZI sheet), none, some (ZI from_), some (ZI n), none, some (ZI 0), none, none] dX12_log_76 (by decide) rfl rfl ?_
              refine zr_iconst (pc := 78) hV 1 dX12_log_78 rfl ?_
              refine zr_istore (pc := 79) hV [some (ZR 0), some (ZI sheet), none, some (ZI from_), some (ZI n), none, some (ZI 0), some (ZI 1), none] dX12_log_79 (by decide) rfl rfl ?_
              have L81 : ∀ (fuel : Nat) (x6_81 : Int) (x7_81 : Int) (σ_81 : zq_S), (0 ≤ x6_81 ∧ x6_81 ≤ 10) → (0 ≤ x7_81 ∧ x7_81 ≤ 1) → (zx_T σ_81) → (∀ a i : Int, (¬ (a = 0 ∧ i = 26) ∧ ¬ (a = 0 ∧ i = 27) ∧ ¬ (a = 0 ∧ i = 30) ∧ a ≠ 15 ∧ a ≠ 16 ∧ a ≠ 17 ∧ a ≠ 18) → σ_81 a i = σ a i) → (zx_M σ_81) → (zx_O σ_81) → (zx_K σ_81) → (zx_W σ_81) → (zq_hid (∀ i, 0 ≤ i → i < 336 → σ_81 17 i = σ 15 i)) → (zq_hid (zs_lgi (30 * sheet + from_) n x6_81 x7_81 σ_47 σ_81)) → (zq_hid (zs_la σ_81)) → (zq_hid ((∀ j, σ_81 16 j = σ 16 j) ∧ σ_81 0 26 = σ 0 26 ∧ σ_81 0 27 = σ 0 27)) → (x6_81 ≤ n) → 2 * (n - x6_81) + x7_81 < (fuel : Int) → V 81 [some (ZR 0), some (ZI sheet), none, some (ZI from_), some (ZI n), none, some (ZI x6_81), some (ZI x7_81), none] [] 41 σ_81 := by
                intro fuel
                induction fuel with
                | zero =>
                  intro x6_81 x7_81 σ_81 hx6_81 hx7_81 hσ_81 hFσ_81 Mσ_81 Oσ_81 Kσ_81 Wσ_81 hi81_0 hi81_1 hi81_2 hi81_3 hi81_4 hm81
                  exfalso; omega
                | succ fuel ih =>
                  intro x6_81 x7_81 σ_81 hx6_81 hx7_81 hσ_81 hFσ_81 Mσ_81 Oσ_81 Kσ_81 Wσ_81 hi81_0 hi81_1 hi81_2 hi81_3 hi81_4 hm81
                  have ih81 := ih
                  show V 81 [some (ZR 0), some (ZI sheet), none, some (ZI from_), some (ZI n), none, some (ZI x6_81), some (ZI x7_81), none] [] 41 σ_81
                  refine zr_iload (pc := 81) hV dX12_log_81 rfl ?_
                  refine zr_iload (pc := 83) hV dX12_log_83 rfl ?_
                  have J155 : (zq_hid (zs_rs (zs_rlo (30 * sheet + from_)) zs_rcan (zs_Rl (30 * sheet + from_)) n x6_81 σ_47)) → V 155 [some (ZR 0), none, none, none, none, none, some (ZI x6_81), none, none] [] 41 σ_81 := by
                    intro hi155_0
                    show V 155 [some (ZR 0), none, none, none, none, none, some (ZI x6_81), none, none] [] 41 σ_81
                    refine zr_iconst (pc := 155) hV 0 dX12_log_155 rfl ?_
                    refine zr_istore (pc := 156) hV [some (ZR 0), none, none, none, none, none, some (ZI x6_81), none, some (ZI 0)] dX12_log_156 (by decide) rfl rfl ?_
                    have L158 : ∀ (fuel : Nat) (x8_158 : Int) (σ_158 : zq_S), (0 ≤ x8_158 ∧ x8_158 ≤ 336) → (zx_T σ_158) → (∀ a i : Int, (¬ (a = 0 ∧ i = 26) ∧ ¬ (a = 0 ∧ i = 27) ∧ ¬ (a = 0 ∧ i = 30) ∧ a ≠ 15 ∧ a ≠ 16 ∧ a ≠ 17 ∧ a ≠ 18) → σ_158 a i = σ a i) → (zx_M σ_158) → (zx_O σ_158) → (zx_K σ_158) → (zx_W σ_158) → (zq_hid (∀ i, 0 ≤ i → i < x8_158 → σ_158 15 i = σ 15 i)) → (zq_hid (∀ i, 0 ≤ i → i < 336 → σ_158 17 i = σ 15 i)) → (zq_hid ((∀ j, σ_158 16 j = σ 16 j) ∧ σ_158 0 26 = σ 0 26 ∧ σ_158 0 27 = σ 0 27)) → (x8_158 ≤ 336) → 336 - x8_158 < (fuel : Int) → V 158 [some (ZR 0), none, none, none, none, none, some (ZI x6_81), none, some (ZI x8_158)] [] 41 σ_158 := by
                      intro fuel
                      induction fuel with
                      | zero =>
                        intro x8_158 σ_158 hx8_158 hσ_158 hFσ_158 Mσ_158 Oσ_158 Kσ_158 Wσ_158 hi158_0 hi158_1 hi158_2 hi158_3 hm158
                        exfalso; omega
                      | succ fuel ih =>
                        intro x8_158 σ_158 hx8_158 hσ_158 hFσ_158 Mσ_158 Oσ_158 Kσ_158 Wσ_158 hi158_0 hi158_1 hi158_2 hi158_3 hm158
                        have ih158 := ih
                        show V 158 [some (ZR 0), none, none, none, none, none, some (ZI x6_81), none, some (ZI x8_158)] [] 41 σ_158
                        refine zr_iload (pc := 158) hV dX12_log_158 rfl ?_
                        refine zr_sipush (pc := 160) hV 336 dX12_log_160 (by decide) ?_
                        refine zr_icmp_ge (pc := 163) hV 186 dX12_log_163 (by decide) (by omega) ⟨by decide, by decide⟩ (fun c5 => ?_) (fun c5 => ?_)
                        · show V 186 [some (ZR 0), none, none, none, none, none, some (ZI x6_81), none, some (ZI x8_158)] [] 41 σ_158
                          refine zr_iload (pc := 186) hV dX12_log_186 rfl ?_
                          exact zr_iret (pc := 188) hV dX12_log_188 rfl rfl ⟨_, rfl, (by omega), hσ_158, hFσ_158, trivial, (show zs_as σ σ_158 ∧ (¬ (0 ≤ sheet ∧ sheet ≤ 3 ∧ 0 ≤ lane ∧ lane ≤ 2 ∧ 0 ≤ n ∧ n ≤ 10) → x6_81 = -1) ∧ ((0 ≤ sheet ∧ sheet ≤ 3 ∧ 0 ≤ lane ∧ lane ≤ 2 ∧ 0 ≤ n ∧ n ≤ 10) → (σ 38 sheet ≠ lane → (σ 38 sheet < 0 → x6_81 = -11) ∧ (0 ≤ σ 38 sheet → x6_81 = -12)) ∧ (σ 38 sheet = lane → (¬ (0 ≤ from_ ∧ from_ ≤ σ 39 sheet - 3 * n) → x6_81 = -13) ∧ (0 ≤ from_ ∧ from_ ≤ σ 39 sheet - 3 * n → ∃ μ, zs_cpr σ μ ∧ zs_rs (zs_rlo (30 * sheet + from_)) zs_rcan (zs_Rl (30 * sheet + from_)) n x6_81 μ))) from ⟨⟨fun i i0 i1 => hi158_0 i i0 (by omega), hi158_2.1, hi158_2.2.1, hi158_2.2.2⟩, fun h => absurd (by omega) h, fun _ => ⟨fun h => by exfalso; omega, fun h => ⟨fun h2 => by exfalso; omega, fun _ => ⟨σ_47, ⟨hσ_47, Oσ_47, Kσ_47, Wσ_47, hi47_1⟩, hi155_0⟩⟩⟩⟩), Mσ_158, Oσ_158, Kσ_158, Wσ_158⟩
                        · show V 166 [some (ZR 0), none, none, none, none, none, some (ZI x6_81), none, some (ZI x8_158)] [] 41 σ_158
                          refine zr_aload_n (pc := 166) hV dX12_log_166 rfl rfl ?_
                          refine zr_getR (pc := 167) hV 24 15 dX12_log_167 fX12_62 rfl rfl rfl (by decide) (zx_g24 hσ_158) (by omega) ?_
                          refine zr_iload (pc := 170) hV dX12_log_170 rfl ?_
                          refine zr_aload_n (pc := 172) hV dX12_log_172 rfl rfl ?_
                          refine zr_getR (pc := 173) hV 28 17 dX12_log_173 fX12_69 rfl rfl rfl (by decide) (zx_g28 hσ_158) (by omega) ?_
                          refine zr_iload (pc := 176) hV dX12_log_176 rfl ?_
                          refine zr_iald (pc := 178) hV dX12_log_178 rfl (by decide) rfl (by omega) ?_
                          have t6 := zx_ga17 hσ_158 x8_158
                          refine zr_iast (pc := 179) hV dX12_log_179 rfl (by decide) rfl (by omega) (fun σ179 eσ179 => ?_)
                          have hσ179 : zx_T σ179 := zx_ua15 eσ179 hσ_158 (by omega)
                          have hFσ179 : ∀ a i : Int, (¬ (a = 0 ∧ i = 26) ∧ ¬ (a = 0 ∧ i = 27) ∧ ¬ (a = 0 ∧ i = 30) ∧ a ≠ 15 ∧ a ≠ 16 ∧ a ≠ 17 ∧ a ≠ 18) → σ179 a i = σ a i := fun a i h => by rw [eσ179, zq_up_ne (fun q => h.2.2.2.1 q.1)]; exact hFσ_158 a i h
                          have Mσ179 : zx_M σ179 := zx_M_fr (fun i => by rw [eσ179]; exact zq_up_ne (by omega)) (by rw [eσ179]; exact zq_up_ne (by omega)) (by rw [eσ179]; exact zq_up_ne (by omega)) (by rw [eσ179]; exact zq_up_ne (by omega)) Mσ_158
                          have Oσ179 : zx_O σ179 := zx_O_fr (fun i => by rw [eσ179]; exact zq_up_ne (by omega)) (fun i => by rw [eσ179]; exact zq_up_ne (by omega)) (fun i => by rw [eσ179]; exact zq_up_ne (by omega)) (by rw [eσ179]; exact zq_up_ne (by omega)) (by rw [eσ179]; exact zq_up_ne (by omega)) Oσ_158
                          have Kσ179 : zx_K σ179 := zx_K_fr (fun i => by rw [eσ179]; exact zq_up_ne (by omega)) (by rw [eσ179]; exact zq_up_ne (by omega)) Kσ_158
                          have Wσ179 : zx_W σ179 := zx_W_fr (fun i => by rw [eσ179]; exact zq_up_ne (by omega)) (by rw [eσ179]; exact zq_up_ne (by omega)) (by rw [eσ179]; exact zq_up_ne (by omega)) (by rw [eσ179]; exact zq_up_ne (by omega)) (fun i => by rw [eσ179]; exact zq_up_ne (by omega)) Wσ_158
                          refine zr_iinc (pc := 180) hV [some (ZR 0), none, none, none, none, none, some (ZI x6_81), none, some (ZI (x8_158 + 1))] (x8_158 + 1) dX12_log_180 rfl rfl (by decide) rfl rfl ?_
                          refine zr_goto (pc := 183) hV 158 dX12_log_183 (by decide) ?_
                          have t7 := zx_g26 hσ179
                          have t8 : σ179 0 26 = σ_158 0 26 := by rw [eσ179]; exact zq_up_ne (by omega)
                          have t9 := zx_g27 hσ179
                          have t10 : σ179 0 27 = σ_158 0 27 := by rw [eσ179]; exact zq_up_ne (by omega)
                          exact ih158 (x8_158 + 1) σ179 (by omega) hσ179 hFσ179 Mσ179 Oσ179 Kσ179 Wσ179 (fun i i0 i1 => if hc : i = x8_158 then (by rw [hc, eσ179, zq_up_same]; exact hi158_1 _ (by omega) (by omega)) else (by rw [eσ179, zq_up_ne (by omega)]; exact hi158_0 i i0 (by omega))) (fun i i0 i1 => by rw [eσ179, zq_up_ne (by omega)]; exact hi158_1 i i0 i1) ⟨fun j => by rw [eσ179, zq_up_ne (by omega)]; exact hi158_2.1 j, by rw [eσ179, zq_up_ne (by omega)]; exact hi158_2.2.1, by rw [eσ179, zq_up_ne (by omega)]; exact hi158_2.2.2⟩ (by omega) (by omega)
                    have t11 := zx_g26 hσ_81
                    have t12 := zx_g27 hσ_81
                    exact L158 (336 - (0 : Int) + 1 : Int).toNat 0 σ_81 (by omega) hσ_81 hFσ_81 Mσ_81 Oσ_81 Kσ_81 Wσ_81 (fun i i0 i1 => absurd i1 (by omega)) hi81_0 hi81_3 (by omega) (by omega)
                  refine zr_icmp_ge (pc := 85) hV 155 dX12_log_85 (by decide) (by omega) (by omega) (fun c13 => ?_) (fun c13 => ?_)
                  · refine zr_sub (pc := 155) hV [some (ZR 0), none, none, none, none, none, some (ZI x6_81), none, none] (⟨rfl, rfl, trivial⟩) ?_
                    exact J155 (zs_lgi_r (by omega) (by omega) (by omega) (by omega) hi81_1)
                  · show V 88 [some (ZR 0), some (ZI sheet), none, some (ZI from_), some (ZI n), none, some (ZI x6_81), some (ZI x7_81), none] [] 41 σ_81
                    refine zr_iload (pc := 88) hV dX12_log_88 rfl ?_
                    refine zr_if_eq (pc := 90) hV 155 dX12_log_90 (by decide) (by omega) (fun c14 => ?_) (fun c14 => ?_)
                    · refine zr_sub (pc := 155) hV [some (ZR 0), none, none, none, none, none, some (ZI x6_81), none, none] (⟨rfl, rfl, trivial⟩) ?_
                      exact J155 (zs_lgi_r (by omega) (by omega) (by omega) (by omega) hi81_1)
                    · show V 93 [some (ZR 0), some (ZI sheet), none, some (ZI from_), some (ZI n), none, some (ZI x6_81), some (ZI x7_81), none] [] 41 σ_81
                      refine zr_aload_n (pc := 93) hV dX12_log_93 rfl rfl ?_
                      refine zr_bipush (pc := 94) hV 30 dX12_log_94 (by decide) ?_
                      refine zr_iload_n (pc := 96) hV dX12_log_96 rfl rfl ?_
                      refine zr_imul (pc := 97) hV dX12_log_97 ?_
                      refine zr_iload_n (pc := 98) hV dX12_log_98 rfl rfl ?_
                      refine zr_iadd (pc := 99) hV dX12_log_99 ?_
                      refine zr_iconst (pc := 100) hV 3 dX12_log_100 rfl ?_
                      refine zr_iload (pc := 101) hV dX12_log_101 rfl ?_
                      refine zr_imul (pc := 103) hV dX12_log_103 ?_
                      refine zr_iadd (pc := 104) hV dX12_log_104 ?_
                      refine zr_callVp (pc := 105) hV [ZI (((30 * sheet) + from_) + (3 * x6_81))] (st := []) (c_X12_isSo2 (σ := σ_81) hσ_81 (((30 * sheet) + from_) + (3 * x6_81)) (by omega)) dX12_log_105 mX12_488 rfl (by decide) (by decide) (Nat.le_of_ble_eq_true rfl) (Nat.le_refl _) (fun r105 hr105 pr105 => ?_)
                      have t15 := zx_g1 hσ_81
                      have t16 : σ_81 0 1 = σ 0 1 := hFσ_81 _ _ (by omega)
                      refine zr_istore (pc := 108) hV [some (ZR 0), some (ZI sheet), none, some (ZI from_), some (ZI n), none, some (ZI x6_81), some (ZI r105), none] dX12_log_108 (by decide) rfl rfl ?_
                      refine zr_iload (pc := 110) hV dX12_log_110 rfl ?_
                      refine zr_iload (pc := 112) hV dX12_log_112 rfl ?_
                      refine zr_if_eq (pc := 114) hV 121 dX12_log_114 (by decide) (by omega) (fun c17 => ?_) (fun c17 => ?_)
                      · show V 121 [some (ZR 0), some (ZI sheet), none, some (ZI from_), some (ZI n), none, some (ZI x6_81), some (ZI r105), none] [ZI x6_81] 41 σ_81
                        refine zr_iconst (pc := 121) hV 0 dX12_log_121 rfl ?_
                        show V 122 [some (ZR 0), some (ZI sheet), none, some (ZI from_), some (ZI n), none, some (ZI x6_81), some (ZI r105), none] [ZI 0, ZI x6_81] 41 σ_81
                        refine zr_iadd (pc := 122) hV dX12_log_122 ?_
                        refine zr_istore (pc := 123) hV [some (ZR 0), some (ZI sheet), none, some (ZI from_), some (ZI n), none, some (ZI (x6_81 + 0)), some (ZI r105), none] dX12_log_123 (by decide) rfl rfl ?_
                        refine zr_iload (pc := 125) hV dX12_log_125 rfl ?_
                        refine zr_if_eq (pc := 127) hV 149 dX12_log_127 (by decide) (by omega) (fun c18 => ?_) (fun c18 => ?_)
                        · show V 149 [some (ZR 0), some (ZI sheet), none, some (ZI from_), some (ZI n), none, some (ZI (x6_81 + 0)), some (ZI r105), none] [] 41 σ_81
                          refine zr_iconst (pc := 149) hV 0 dX12_log_149 rfl ?_
                          show V 150 [some (ZR 0), some (ZI sheet), none, some (ZI from_), some (ZI n), none, some (ZI (x6_81 + 0)), some (ZI r105), none] [ZI 0] 41 σ_81
                          refine zr_istore (pc := 150) hV [some (ZR 0), some (ZI sheet), none, some (ZI from_), some (ZI n), none, some (ZI (x6_81 + 0)), some (ZI 0), none] dX12_log_150 (by decide) rfl rfl ?_
                          refine zr_goto (pc := 152) hV 81 dX12_log_152 (by decide) ?_
                          have t19 := zx_g26 hσ_81
                          have t20 := zx_g27 hσ_81
                          exact ih81 (x6_81 + 0) 0 σ_81 (by omega) (by omega) hσ_81 hFσ_81 Mσ_81 Oσ_81 Kσ_81 Wσ_81 hi81_0 (by rw [show x6_81 + 0 = x6_81 by omega]; exact zs_lgi_n (by omega) (by have z := hi81_1; rw [show x7_81 = 1 by omega] at z; exact z) (fun q => absurd (pr105.2.mpr q) (by omega))) hi81_2 hi81_3 (by omega) (by omega)
                        · exfalso; omega
                      · show V 117 [some (ZR 0), some (ZI sheet), none, some (ZI from_), some (ZI n), none, some (ZI x6_81), some (ZI r105), none] [ZI x6_81] 41 σ_81
                        refine zr_iconst (pc := 117) hV 1 dX12_log_117 rfl ?_
                        refine zr_goto (pc := 118) hV 122 dX12_log_118 (by decide) ?_
                        show V 122 [some (ZR 0), some (ZI sheet), none, some (ZI from_), some (ZI n), none, some (ZI x6_81), some (ZI r105), none] [ZI 1, ZI x6_81] 41 σ_81
                        refine zr_iadd (pc := 122) hV dX12_log_122 ?_
                        refine zr_istore (pc := 123) hV [some (ZR 0), some (ZI sheet), none, some (ZI from_), some (ZI n), none, some (ZI (x6_81 + 1)), some (ZI r105), none] dX12_log_123 (by decide) rfl rfl ?_
                        refine zr_iload (pc := 125) hV dX12_log_125 rfl ?_
                        refine zr_if_eq (pc := 127) hV 149 dX12_log_127 (by decide) (by omega) (fun c21 => ?_) (fun c21 => ?_)
                        · exfalso; omega
                        · show V 130 [some (ZR 0), some (ZI sheet), none, some (ZI from_), some (ZI n), none, some (ZI (x6_81 + 1)), some (ZI r105), none] [] 41 σ_81
                          refine zr_iload (pc := 130) hV dX12_log_130 rfl ?_
                          refine zr_iload (pc := 132) hV dX12_log_132 rfl ?_
                          refine zr_icmp_eq (pc := 134) hV 145 dX12_log_134 (by decide) (by omega) (by omega) (fun c22 => ?_) (fun c22 => ?_)
                          · show V 145 [some (ZR 0), some (ZI sheet), none, some (ZI from_), some (ZI n), none, some (ZI (x6_81 + 1)), some (ZI r105), none] [] 41 σ_81
                            refine zr_iconst (pc := 145) hV 1 dX12_log_145 rfl ?_
                            refine zr_goto (pc := 146) hV 150 dX12_log_146 (by decide) ?_
                            show V 150 [some (ZR 0), some (ZI sheet), none, some (ZI from_), some (ZI n), none, some (ZI (x6_81 + 1)), some (ZI r105), none] [ZI 1] 41 σ_81
                            refine zr_istore (pc := 150) hV [some (ZR 0), some (ZI sheet), none, some (ZI from_), some (ZI n), none, some (ZI (x6_81 + 1)), some (ZI 1), none] dX12_log_150 (by decide) rfl rfl ?_
                            refine zr_goto (pc := 152) hV 81 dX12_log_152 (by decide) ?_
                            have t23 := zx_g26 hσ_81
                            have t24 := zx_g27 hσ_81
                            exact ih81 (x6_81 + 1) 1 σ_81 (by omega) (by omega) hσ_81 hFσ_81 Mσ_81 Oσ_81 Kσ_81 Wσ_81 hi81_0 (zs_lgi_e (by omega) (by omega) (by have z := hi81_1; rw [show x7_81 = 1 by omega] at z; exact z) (pr105.2.mp (by omega))) hi81_2 hi81_3 (by omega) (by omega)
                          · show V 137 [some (ZR 0), some (ZI sheet), none, some (ZI from_), some (ZI n), none, some (ZI (x6_81 + 1)), some (ZI r105), none] [] 41 σ_81
                            refine zr_aload_n (pc := 137) hV dX12_log_137 rfl rfl ?_
                            refine zr_iconst (pc := 138) hV 0 dX12_log_138 rfl ?_
                            refine zr_callVi (pc := 139) hV [ZI 0] (st := []) (c_X12_doStep3 (σ := σ_81) hσ_81 0 (by omega) hi81_2 (zs_gg_fr (hFσ_81 0 3 (by omega)) (fun i => hFσ_81 3 i (by omega)) (fun i => hFσ_81 4 i (by omega)) q5) Mσ_81 Oσ_81 Kσ_81 Wσ_81) dX12_log_139 mX12_382 rfl (by decide) (by decide) (Nat.le_of_ble_eq_true rfl) (Nat.le_refl _) (fun r139 σ139 hr139 pσ139 => ?_)
                            obtain ⟨hσ139, hfσ139, pσ139, wσ139, Mσ139, Oσ139, Kσ139, Wσ139⟩ := pσ139
                            have hFσ139 : ∀ a i : Int, (¬ (a = 0 ∧ i = 26) ∧ ¬ (a = 0 ∧ i = 27) ∧ ¬ (a = 0 ∧ i = 30) ∧ a ≠ 15 ∧ a ≠ 16 ∧ a ≠ 17 ∧ a ≠ 18) → σ139 a i = σ a i := fun a i h => (hfσ139 a i ⟨h.1, h.2.1, h.2.2.1, h.2.2.2.1, h.2.2.2.2.1, h.2.2.2.2.2.2⟩).trans (hFσ_81 a i h)
                            refine zr_if_eq (pc := 142) hV 149 dX12_log_142 (by decide) (by omega) (fun c25 => ?_) (fun c25 => ?_)
                            · show V 149 [some (ZR 0), some (ZI sheet), none, some (ZI from_), some (ZI n), none, some (ZI (x6_81 + 1)), some (ZI r105), none] [] 41 σ139
                              refine zr_iconst (pc := 149) hV 0 dX12_log_149 rfl ?_
                              show V 150 [some (ZR 0), some (ZI sheet), none, some (ZI from_), some (ZI n), none, some (ZI (x6_81 + 1)), some (ZI r105), none] [ZI 0] 41 σ139
                              refine zr_istore (pc := 150) hV [some (ZR 0), some (ZI sheet), none, some (ZI from_), some (ZI n), none, some (ZI (x6_81 + 1)), some (ZI 0), none] dX12_log_150 (by decide) rfl rfl ?_
                              refine zr_goto (pc := 152) hV 81 dX12_log_152 (by decide) ?_
                              have t26 := zx_g26 hσ139
                              have t27 := zx_g27 hσ139
                              exact ih81 (x6_81 + 1) 0 σ139 (by omega) (by omega) hσ139 hFσ139 Mσ139 Oσ139 Kσ139 Wσ139 (fun i i0 i1 => by rw [(wσ139.1 (by omega)).2 17 i (by decide) (by omega)]; exact hi81_0 i i0 i1) (zs_lgi_o (by omega) (by omega) (by have z := hi81_1; rw [show x7_81 = 1 by omega] at z; exact z) (pr105.2.mp (by omega)) (wσ139.1 (by omega)).1) (by have z := hi81_2; unfold zq_hid zs_la at z ⊢; rw [(wσ139.1 (by omega)).2 15 270 (by decide) (by omega), (wσ139.1 (by omega)).2 15 271 (by decide) (by omega)]; exact z) ⟨fun j => by rw [(wσ139.1 (by omega)).2 16 j (by decide) (by omega)]; exact hi81_3.1 j, by rw [(wσ139.1 (by omega)).2 0 26 (by decide) (by omega)]; exact hi81_3.2.1, by rw [(wσ139.1 (by omega)).2 0 27 (by decide) (by omega)]; exact hi81_3.2.2⟩ (by omega) (by omega)
                            · show V 145 [some (ZR 0), some (ZI sheet), none, some (ZI from_), some (ZI n), none, some (ZI (x6_81 + 1)), some (ZI r105), none] [] 41 σ139
                              refine zr_iconst (pc := 145) hV 1 dX12_log_145 rfl ?_
                              refine zr_goto (pc := 146) hV 150 dX12_log_146 (by decide) ?_
                              show V 150 [some (ZR 0), some (ZI sheet), none, some (ZI from_), some (ZI n), none, some (ZI (x6_81 + 1)), some (ZI r105), none] [ZI 1] 41 σ139
                              refine zr_istore (pc := 150) hV [some (ZR 0), some (ZI sheet), none, some (ZI from_), some (ZI n), none, some (ZI (x6_81 + 1)), some (ZI 1), none] dX12_log_150 (by decide) rfl rfl ?_
                              refine zr_goto (pc := 152) hV 81 dX12_log_152 (by decide) ?_
                              have t28 := zx_g26 hσ139
                              have t29 := zx_g27 hσ139
                              exact ih81 (x6_81 + 1) 1 σ139 (by omega) (by omega) hσ139 hFσ139 Mσ139 Oσ139 Kσ139 Wσ139 (fun i i0 i1 => by rw [hfσ139 17 i (by omega)]; exact hi81_0 i i0 i1) (zs_lgi_s (by omega) (by omega) (by have z := hi81_1; rw [show x7_81 = 1 by omega] at z; exact z) ⟨hσ_81, hσ139, Oσ_81, Kσ_81, (fun a i h1 h2 h3 h4 => hfσ139 a i (by omega)), (pr105.2.mp (by omega)), wσ139.2 (by omega)⟩) (zs_la_st (wσ139.2 (by omega))) (by obtain ⟨o, d1, d2, d3, d4, d5⟩ := wσ139.2 (by omega); have z := d5 rfl; exact ⟨fun j => by rw [z.1 j]; exact hi81_3.1 j, by rw [z.2.1]; exact hi81_3.2.1, by rw [z.2.2]; exact hi81_3.2.2⟩) (by omega) (by omega)
              have t30 := zx_g26 hσ_47
              have t31 := zx_g27 hσ_47
              exact L81 (2 * (n - (0 : Int)) + (1 : Int) + 1 : Int).toNat 0 1 σ_47 (by omega) (by omega) hσ_47 hFσ_47 Mσ_47 Oσ_47 Kσ_47 Wσ_47 (fun i i0 i1 => hi47_0 i i0 (by omega)) (zs_lgi_0 (p := (30 * sheet + from_))) (by have z := q4; unfold zq_hid zs_la at z ⊢; rw [hi47_1 15 270 (by decide), hi47_1 15 271 (by decide)]; exact z) ⟨fun j => hi47_1 16 j (by decide), hi47_1 0 26 (by decide), hi47_1 0 27 (by decide)⟩ (by omega) (by omega)
            · show V 55 [some (ZR 0), some (ZI sheet), none, some (ZI from_), some (ZI n), none, some (ZI x6_47), none, none] [] 41 σ_47
              refine zr_aload_n (pc := 55) hV dX12_log_55 rfl rfl ?_
              refine zr_getR (pc := 56) hV 28 17 dX12_log_56 fX12_69 rfl rfl rfl (by decide) (zx_g28 hσ_47) (by omega) ?_
              refine zr_iload (pc := 59) hV dX12_log_59 rfl ?_
              refine zr_aload_n (pc := 61) hV dX12_log_61 rfl rfl ?_
              refine zr_getR (pc := 62) hV 24 15 dX12_log_62 fX12_62 rfl rfl rfl (by decide) (zx_g24 hσ_47) (by omega) ?_
              refine zr_iload (pc := 65) hV dX12_log_65 rfl ?_
              refine zr_iald (pc := 67) hV dX12_log_67 rfl (by decide) rfl (by omega) ?_
              have t32 := zx_ga15 hσ_47 x6_47
              refine zr_iast (pc := 68) hV dX12_log_68 rfl (by decide) rfl (by omega) (fun σ68 eσ68 => ?_)
              have hσ68 : zx_T σ68 := zx_ua17 eσ68 hσ_47 (by omega)
              have hFσ68 : ∀ a i : Int, (¬ (a = 0 ∧ i = 26) ∧ ¬ (a = 0 ∧ i = 27) ∧ ¬ (a = 0 ∧ i = 30) ∧ a ≠ 15 ∧ a ≠ 16 ∧ a ≠ 17 ∧ a ≠ 18) → σ68 a i = σ a i := fun a i h => by rw [eσ68, zq_up_ne (fun q => h.2.2.2.2.2.1 q.1)]; exact hFσ_47 a i h
              have Mσ68 : zx_M σ68 := zx_M_fr (fun i => by rw [eσ68]; exact zq_up_ne (by omega)) (by rw [eσ68]; exact zq_up_ne (by omega)) (by rw [eσ68]; exact zq_up_ne (by omega)) (by rw [eσ68]; exact zq_up_ne (by omega)) Mσ_47
              have Oσ68 : zx_O σ68 := zx_O_fr (fun i => by rw [eσ68]; exact zq_up_ne (by omega)) (fun i => by rw [eσ68]; exact zq_up_ne (by omega)) (fun i => by rw [eσ68]; exact zq_up_ne (by omega)) (by rw [eσ68]; exact zq_up_ne (by omega)) (by rw [eσ68]; exact zq_up_ne (by omega)) Oσ_47
              have Kσ68 : zx_K σ68 := zx_K_fr (fun i => by rw [eσ68]; exact zq_up_ne (by omega)) (by rw [eσ68]; exact zq_up_ne (by omega)) Kσ_47
              have Wσ68 : zx_W σ68 := zx_W_fr (fun i => by rw [eσ68]; exact zq_up_ne (by omega)) (by rw [eσ68]; exact zq_up_ne (by omega)) (by rw [eσ68]; exact zq_up_ne (by omega)) (by rw [eσ68]; exact zq_up_ne (by omega)) (fun i => by rw [eσ68]; exact zq_up_ne (by omega)) Wσ_47
              refine zr_iinc (pc := 69) hV [some (ZR 0), some (ZI sheet), none, some (ZI from_), some (ZI n), none, some (ZI (x6_47 + 1)), none, none] (x6_47 + 1) dX12_log_69 rfl rfl (by decide) rfl rfl ?_
              refine zr_goto (pc := 72) hV 47 dX12_log_72 (by decide) ?_
              exact ih47 (x6_47 + 1) σ68 (by omega) hσ68 hFσ68 Mσ68 Oσ68 Kσ68 Wσ68 (fun i i0 i1 => if hc : i = x6_47 then (by rw [hc, eσ68, zq_up_same]; exact hi47_1 15 _ (by decide)) else (by rw [eσ68, zq_up_ne (by omega)]; exact hi47_0 i i0 (by omega))) (fun a i h => by rw [eσ68, zq_up_ne (by omega)]; exact hi47_1 a i h) (by omega)
        refine zr_sub (pc := 47) hV [some (ZR 0), some (ZI sheet), none, some (ZI from_), some (ZI n), none, some (ZI 0), none, none] (⟨rfl, rfl, rfl, rfl, rfl, trivial⟩) ?_
        exact L47 (336 - (0 : Int) + 1 : Int).toNat 0 σ (by omega) hσ (fun a i _ => rfl) Mσ Oσ Kσ Wσ (fun i i0 i1 => absurd i1 (by omega)) (fun _ _ _ => rfl) (by omega)
      · show V 41 [some (ZR 0), some (ZI sheet), some (ZI lane), some (ZI from_), some (ZI n), some (ZI r31), none, none, none] [] 41 σ
        refine zr_iload (pc := 41) hV dX12_log_41 rfl ?_
        exact zr_iret (pc := 43) hV dX12_log_43 rfl rfl ⟨_, rfl, (by omega), hσ, (fun a i _ => rfl), trivial, (show zs_as σ σ ∧ (¬ (0 ≤ sheet ∧ sheet ≤ 3 ∧ 0 ≤ lane ∧ lane ≤ 2 ∧ 0 ≤ n ∧ n ≤ 10) → r31 = -1) ∧ ((0 ≤ sheet ∧ sheet ≤ 3 ∧ 0 ≤ lane ∧ lane ≤ 2 ∧ 0 ≤ n ∧ n ≤ 10) → (σ 38 sheet ≠ lane → (σ 38 sheet < 0 → r31 = -11) ∧ (0 ≤ σ 38 sheet → r31 = -12)) ∧ (σ 38 sheet = lane → (¬ (0 ≤ from_ ∧ from_ ≤ σ 39 sheet - 3 * n) → r31 = -13) ∧ (0 ≤ from_ ∧ from_ ≤ σ 39 sheet - 3 * n → ∃ μ, zs_cpr σ μ ∧ zs_rs (zs_rlo (30 * sheet + from_)) zs_rcan (zs_Rl (30 * sheet + from_)) n r31 μ))) from ⟨⟨fun _ _ _ => rfl, fun _ => rfl, rfl, rfl⟩, fun h => absurd (by omega) h, fun _ => ⟨fun h => ⟨fun h2 => by omega, fun h2 => by omega⟩, fun h => ⟨fun h2 => by omega, fun h2 => by exfalso; omega⟩⟩⟩), Mσ, Oσ, Kσ, Wσ⟩
    · show V 21 [some (ZR 0), some (ZI sheet), some (ZI lane), some (ZI from_), some (ZI n), none, none, none, none] [] 41 σ
      refine zr_iconst (pc := 21) hV (-1) dX12_log_21 rfl ?_
      exact zr_iret (pc := 22) hV dX12_log_22 rfl rfl ⟨_, rfl, ⟨by decide, by decide⟩, hσ, (fun a i _ => rfl), trivial, (show zs_as σ σ ∧ (¬ (0 ≤ sheet ∧ sheet ≤ 3 ∧ 0 ≤ lane ∧ lane ≤ 2 ∧ 0 ≤ n ∧ n ≤ 10) → ((-1) : Int) = -1) ∧ ((0 ≤ sheet ∧ sheet ≤ 3 ∧ 0 ≤ lane ∧ lane ≤ 2 ∧ 0 ≤ n ∧ n ≤ 10) → (σ 38 sheet ≠ lane → (σ 38 sheet < 0 → ((-1) : Int) = -11) ∧ (0 ≤ σ 38 sheet → ((-1) : Int) = -12)) ∧ (σ 38 sheet = lane → (¬ (0 ≤ from_ ∧ from_ ≤ σ 39 sheet - 3 * n) → ((-1) : Int) = -13) ∧ (0 ≤ from_ ∧ from_ ≤ σ 39 sheet - 3 * n → ∃ μ, zs_cpr σ μ ∧ zs_rs (zs_rlo (30 * sheet + from_)) zs_rcan (zs_Rl (30 * sheet + from_)) n ((-1) : Int) μ))) from ⟨⟨fun _ _ _ => rfl, fun _ => rfl, rfl, rfl⟩, fun _ => rfl, fun h => by exfalso; omega⟩), Mσ, Oσ, Kσ, Wσ⟩
