set_option maxHeartbeats 800000 in
theorem c_X12_readsStore2 {σ : zq_S} (hσ : zx_T σ) (o store names : Int) (q0 : 0 ≤ o ∧ o ≤ 20) (q1 : 0 ≤ store ∧ store ≤ 8) (q2 : zq_in names) (q3 : zx_A σ o) (q4 : σ 3 o = 0 ∨ σ 4 o ≠ 3) : zq_C zx_w yX12_readsStore cX12_readsStore 8 (some .boolean) 3 73 41 41 [ZR 0, ZI o, ZI store, ZI names] σ (zq_pi (fun r τ => zx_T τ ∧ (∀ a i : Int, (¬ (a = 0 ∧ i = 22) ∧ a ≠ 11 ∧ a ≠ 12 ∧ a ≠ 13) → τ a i = σ a i) ∧ ((r = 0 ∨ r = 1)) ∧ zq_hid (r = 1 ↔ zr_P (σ 6) o (σ 3 o) (σ 4 o) (σ 5 o) store names))) := by
  refine zq_C_of (by decide) (Nat.le_refl _) (Nat.le_of_ble_eq_true rfl) [some (ZR 0), some (ZI o), some (ZI store), some (ZI names), none, none, none, none] rfl (fun V hV => ?_)
  show V 0 [some (ZR 0), some (ZI o), some (ZI store), some (ZI names), none, none, none, none] [] 41 σ
  refine zr_iload_n (pc := 0) hV dX12_readsStore_0 rfl rfl ?_
  refine zr_callSp (pc := 1) hV [ZI names] (st := []) (c_X12_statesOf2 (σ := σ) names (by omega)) dX12_readsStore_1 mX12_313 (by decide) (Nat.le_of_ble_eq_true rfl) (Nat.le_refl _) (fun r1 hr1 pr1 => ?_)
  refine zr_istore (pc := 4) hV [some (ZR 0), some (ZI o), some (ZI store), some (ZI names), some (ZI r1), none, none, none] dX12_readsStore_4 (by decide) rfl rfl ?_
  refine zr_aload_n (pc := 6) hV dX12_readsStore_6 rfl rfl ?_
  refine zr_iconst (pc := 7) hV 0 dX12_readsStore_7 rfl ?_
  refine zr_putI (pc := 8) hV 22 dX12_readsStore_8 fX12_293 rfl rfl rfl rfl (by decide) (fun σ8 eσ8 => ?_)
  have hσ8 : zx_T σ8 := zx_u22 eσ8 hσ (by omega)
  have hFσ8 : ∀ a i : Int, (¬ (a = 0 ∧ i = 22) ∧ a ≠ 11 ∧ a ≠ 12 ∧ a ≠ 13) → σ8 a i = σ a i := fun a i h => by rw [eσ8, zq_up_ne h.1]
  have L11 : ∀ (fuel : Nat) (σ_11 : zq_S), (zx_T σ_11) → (∀ a i : Int, (¬ (a = 0 ∧ i = 22) ∧ a ≠ 11 ∧ a ≠ 12 ∧ a ≠ 13) → σ_11 a i = σ a i) → (zq_hid (∀ i, 0 ≤ i → i < σ_11 0 22 → ∀ q, 0 ≤ q → q < zr_m names 9 → ¬ zr_wt (σ 6) o (σ 3 o) (σ 4 o) (σ 5 o) store names i q)) → (0 ≤ σ_11 0 22 ∧ σ_11 0 22 ≤ zr_ni names) → 4 - σ_11 0 22 < (fuel : Int) → V 11 [some (ZR 0), some (ZI o), some (ZI store), some (ZI names), some (ZI r1), none, none, none] [] 41 σ_11 := by
    intro fuel
    induction fuel with
    | zero =>
      intro σ_11 hσ_11 hFσ_11 hi11_0 hi11_1 hm11
      have t1 := zx_g22 hσ_11
      exfalso; omega
    | succ fuel ih =>
      intro σ_11 hσ_11 hFσ_11 hi11_0 hi11_1 hm11
      have ih11 := ih
      show V 11 [some (ZR 0), some (ZI o), some (ZI store), some (ZI names), some (ZI r1), none, none, none] [] 41 σ_11
      refine zr_aload_n (pc := 11) hV dX12_readsStore_11 rfl rfl ?_
      refine zr_getI (pc := 12) hV 22 dX12_readsStore_12 fX12_293 rfl rfl rfl (by decide) ?_
      have t2 := zx_g22 hσ_11
      refine zr_iload_n (pc := 15) hV dX12_readsStore_15 rfl rfl ?_
      refine zr_bipush (pc := 16) hV 64 dX12_readsStore_16 (by decide) ?_
      refine zr_iand (pc := 18) hV dX12_readsStore_18 ?_
      have t3 := zq_and_nnR (x := names) (y := 64) (by omega)
      have J27 : ∀ (v0_27 : Int), (1 ≤ v0_27 ∧ v0_27 ≤ 4) → (v0_27 = zr_ni names) → V 27 [some (ZR 0), some (ZI o), some (ZI store), some (ZI names), some (ZI r1), none, none, none] [ZI v0_27, ZI (σ_11 0 22)] 41 σ_11 := by
        intro v0_27 hv0_27 hi27_0
        show V 27 [some (ZR 0), some (ZI o), some (ZI store), some (ZI names), some (ZI r1), none, none, none] [ZI v0_27, ZI (σ_11 0 22)] 41 σ_11
        refine zr_icmp_ge (pc := 27) hV 152 dX12_readsStore_27 (by decide) (by omega) (by omega) (fun c4 => ?_) (fun c4 => ?_)
        · show V 152 [some (ZR 0), some (ZI o), some (ZI store), some (ZI names), some (ZI r1), none, none, none] [] 41 σ_11
          refine zr_iconst (pc := 152) hV 0 dX12_readsStore_152 rfl ?_
          exact zr_zret (pc := 153) hV dX12_readsStore_153 rfl rfl (by omega) ⟨_, rfl, ⟨by decide, by decide⟩, hσ_11, hFσ_11, (by omega), (show (0 : Int) = 1 ↔ zr_P (σ 6) o (σ 3 o) (σ 4 o) (σ 5 o) store names from ⟨fun h => absurd h (by decide), fun ⟨i, q, hi, hq, w⟩ => absurd w (hi11_0 i hi.1 (by omega) q hq.1 hq.2)⟩)⟩
        · show V 30 [some (ZR 0), some (ZI o), some (ZI store), some (ZI names), some (ZI r1), none, none, none] [] 41 σ_11
          refine zr_iconst (pc := 30) hV 0 dX12_readsStore_30 rfl ?_
          refine zr_istore (pc := 31) hV [some (ZR 0), some (ZI o), some (ZI store), some (ZI names), some (ZI r1), some (ZI 0), none, none] dX12_readsStore_31 (by decide) rfl rfl ?_
          have t5 := zx_g22 hσ_11
          have L33 : ∀ (fuel : Nat) (x5_33 : Int) (σ_33 : zq_S), (0 ≤ x5_33 ∧ x5_33 ≤ 262144) → (zx_T σ_33) → (∀ a i : Int, (¬ (a = 0 ∧ i = 22) ∧ a ≠ 11 ∧ a ≠ 12 ∧ a ≠ 13) → σ_33 a i = σ a i) → (σ_33 0 22 = σ_11 0 22) → (zq_hid (∀ q, 0 ≤ q → q < x5_33 → ¬ zr_wt (σ 6) o (σ 3 o) (σ 4 o) (σ 5 o) store names (σ_33 0 22) q)) → 2147483647 - x5_33 < (fuel : Int) → V 33 [some (ZR 0), some (ZI o), some (ZI store), some (ZI names), some (ZI r1), some (ZI x5_33), none, none] [] 41 σ_33 := by
            intro fuel
            induction fuel with
            | zero =>
              intro x5_33 σ_33 hx5_33 hσ_33 hFσ_33 hi33_0 hi33_1 hm33
              exfalso; omega
            | succ fuel ih =>
              intro x5_33 σ_33 hx5_33 hσ_33 hFσ_33 hi33_0 hi33_1 hm33
              have ih33 := ih
              show V 33 [some (ZR 0), some (ZI o), some (ZI store), some (ZI names), some (ZI r1), some (ZI x5_33), none, none] [] 41 σ_33
              refine zr_iload (pc := 33) hV dX12_readsStore_33 rfl ?_
              refine zr_iload (pc := 35) hV dX12_readsStore_35 rfl ?_
              refine zr_icmp_ge (pc := 37) hV 139 dX12_readsStore_37 (by decide) (by omega) (by omega) (fun c6 => ?_) (fun c6 => ?_)
              · show V 139 [some (ZR 0), some (ZI o), some (ZI store), some (ZI names), some (ZI r1), some (ZI x5_33), none, none] [] 41 σ_33
                refine zr_aload_n (pc := 139) hV dX12_readsStore_139 rfl rfl ?_
                refine zr_dup (pc := 140) hV dX12_readsStore_140 (fun _ => rfl) ?_
                refine zr_getI (pc := 141) hV 22 dX12_readsStore_141 fX12_293 rfl rfl rfl (by decide) ?_
                have t7 := zx_g22 hσ_33
                refine zr_iconst (pc := 144) hV 1 dX12_readsStore_144 rfl ?_
                refine zr_iadd (pc := 145) hV dX12_readsStore_145 ?_
                refine zr_putI (pc := 146) hV 22 dX12_readsStore_146 fX12_293 rfl rfl rfl rfl (by decide) (fun σ146 eσ146 => ?_)
                have hσ146 : zx_T σ146 := zx_u22 eσ146 hσ_33 (by omega)
                have hFσ146 : ∀ a i : Int, (¬ (a = 0 ∧ i = 22) ∧ a ≠ 11 ∧ a ≠ 12 ∧ a ≠ 13) → σ146 a i = σ a i := fun a i h => by rw [eσ146, zq_up_ne h.1]; exact hFσ_33 a i h
                refine zr_goto (pc := 149) hV 11 dX12_readsStore_149 (by decide) ?_
                have t8 := zx_g22 hσ146
                have t9 : σ146 0 22 = (σ_33 0 22) + 1 := by rw [eσ146]; exact zq_up_same _ _ _ _
                have t10 := zx_g22 hσ146
                have t11 : σ146 0 22 = (σ_33 0 22) + 1 := by rw [eσ146]; exact zq_up_same _ _ _ _
                have t12 := zx_g22 hσ146
                have t13 : σ146 0 22 = (σ_33 0 22) + 1 := by rw [eσ146]; exact zq_up_same _ _ _ _
                refine zr_sub (pc := 11) hV [some (ZR 0), some (ZI o), some (ZI store), some (ZI names), some (ZI r1), none, none, none] (⟨rfl, rfl, rfl, rfl, rfl, trivial⟩) ?_
                exact ih11 σ146 hσ146 hFσ146 (fun i i0 i1 q qq0 qq1 => by have k22 : σ146 0 22 = σ_33 0 22 + 1 := (by rw [eσ146, zq_up_same]); by_cases c : i = σ_33 0 22; (rw [c]; exact hi33_1 q qq0 (by omega)); exact hi11_0 i i0 (by omega) q qq0 qq1) (by omega) (by omega)
              · show V 40 [some (ZR 0), some (ZI o), some (ZI store), some (ZI names), some (ZI r1), some (ZI x5_33), none, none] [] 41 σ_33
                refine zr_aload_n (pc := 40) hV dX12_readsStore_40 rfl rfl ?_
                refine zr_iload (pc := 41) hV dX12_readsStore_41 rfl ?_
                refine zr_iload_n (pc := 43) hV dX12_readsStore_43 rfl rfl ?_
                refine zr_callVv (pc := 44) hV [ZI x5_33, ZI names] (st := []) (c_X12_setNarrow2 (σ := σ_33) hσ_33 x5_33 names (by omega) (by omega) (by omega)) dX12_readsStore_44 mX12_316 rfl (by decide) (by decide) (Nat.le_of_ble_eq_true rfl) (Nat.le_refl _) (fun σ44 pσ44 => ?_)
                obtain ⟨hσ44, hfσ44, pσ44, wσ44⟩ := pσ44
                have hFσ44 : ∀ a i : Int, (¬ (a = 0 ∧ i = 22) ∧ a ≠ 11 ∧ a ≠ 12 ∧ a ≠ 13) → σ44 a i = σ a i := fun a i h => (hfσ44 a i h.2.2.2).trans (hFσ_33 a i h)
                refine zr_aload_n (pc := 47) hV dX12_readsStore_47 rfl rfl ?_
                refine zr_getR (pc := 48) hV 21 13 dX12_readsStore_48 fX12_56 rfl rfl rfl (by decide) (zx_g21 hσ44) (by omega) ?_
                refine zr_iload_n (pc := 51) hV dX12_readsStore_51 rfl rfl ?_
                refine zr_iald (pc := 52) hV dX12_readsStore_52 rfl (by decide) rfl (by omega) ?_
                have t14 := zx_ga13 hσ44 store
                refine zr_istore (pc := 53) hV [some (ZR 0), some (ZI o), some (ZI store), some (ZI names), some (ZI r1), some (ZI x5_33), some (ZI (σ44 13 store)), none] dX12_readsStore_53 (by decide) rfl rfl ?_
                refine zr_aload_n (pc := 55) hV dX12_readsStore_55 rfl rfl ?_
                refine zr_aload_n (pc := 56) hV dX12_readsStore_56 rfl rfl ?_
                refine zr_getR (pc := 57) hV 19 11 dX12_readsStore_57 fX12_50 rfl rfl rfl (by decide) (zx_g19 hσ44) (by omega) ?_
                refine zr_callVv (pc := 60) hV [ZR 11] (st := []) (c_X12_copyAhead2 (σ := σ44) hσ44 11 (by omega)) dX12_readsStore_60 mX12_320 rfl (by decide) (by decide) (Nat.le_of_ble_eq_true rfl) (Nat.le_refl _) (fun σ60 pσ60 => ?_)
                obtain ⟨hσ60, hfσ60, pσ60, wσ60⟩ := pσ60
                have hFσ60 : ∀ a i : Int, (¬ (a = 0 ∧ i = 22) ∧ a ≠ 11 ∧ a ≠ 12 ∧ a ≠ 13) → σ60 a i = σ a i := fun a i h => (hfσ60 a i ⟨h.2.1, h.2.2.1⟩).trans (hFσ44 a i h)
                refine zr_aload_n (pc := 63) hV dX12_readsStore_63 rfl rfl ?_
                refine zr_iload_n (pc := 64) hV dX12_readsStore_64 rfl rfl ?_
                refine zr_aload_n (pc := 65) hV dX12_readsStore_65 rfl rfl ?_
                refine zr_getR (pc := 66) hV 19 11 dX12_readsStore_66 fX12_50 rfl rfl rfl (by decide) (zx_g19 hσ60) (by omega) ?_
                have t15 := zx_g22 hσ60
                have t16 : σ60 0 22 = σ44 0 22 := hfσ60 _ _ (by omega)
                have t17 : σ44 0 22 = σ_33 0 22 := hfσ44 _ _ (by omega)
                refine zr_callVv (pc := 69) hV [ZI o, ZR 11] (st := []) (c_X12_doNarrow2 (σ := σ60) hσ60 o 11 (by omega) (by omega) (by omega) (zx_A_fr (fun i => hFσ60 5 i (by omega)) (fun i => hFσ60 6 i (by omega)) q3) (by rw [hFσ60 3 o (by omega), hFσ60 4 o (by omega)]; exact q4)) dX12_readsStore_69 mX12_324 rfl (by decide) (by decide) (Nat.le_of_ble_eq_true rfl) (Nat.le_refl _) (fun σ69 pσ69 => ?_)
                obtain ⟨hσ69, hfσ69, pσ69, wσ69⟩ := pσ69
                have hFσ69 : ∀ a i : Int, (¬ (a = 0 ∧ i = 22) ∧ a ≠ 11 ∧ a ≠ 12 ∧ a ≠ 13) → σ69 a i = σ a i := fun a i h => (hfσ69 a i ⟨h.2.1, h.2.2.1⟩).trans (hFσ60 a i h)
                have t18 := zx_g22 hσ60
                have t19 : σ60 0 22 = σ44 0 22 := hfσ60 _ _ (by omega)
                have t20 : σ44 0 22 = σ_33 0 22 := hfσ44 _ _ (by omega)
                have gR := zn_g_r hσ q3 q4
                have nb := zr_ni_b names
                have st := zr_s_st (N := names) (i := σ_33 0 22) (q := x5_33) ⟨by omega, by omega⟩
                have e22 : σ60 0 22 = σ_33 0 22 := by rw [wσ60.2 0 22 (by decide), hfσ44 0 22 (by omega)]
                have d69 : ∀ y, 0 ≤ y → y ≤ 8 → σ69 11 y = zn_o (σ 6) o (σ 3 o) (σ 4 o) (σ 5 o) (zr_s names (σ_33 0 22) x5_33) y := zr_done (i := σ60 0 22) (μ := σ60 11) gR st (by rw [zr_s_9]; exact e22) (fun y y0 y8 => by rw [wσ60.1 y y0 y8, wσ44 y y0 y8, zr_s_x y8]) (by have w := wσ69.1; rw [show σ60 6 = σ 6 from funext (fun i => hFσ60 6 i (by omega)), hFσ60 3 o (by omega), hFσ60 4 o (by omega), hFσ60 5 o (by omega)] at w; exact w)
                have e13 : ∀ y, 0 ≤ y → y ≤ 8 → σ69 13 y = zr_d names x5_33 y := fun y y0 y8 => by rw [wσ69.2 13 y (by decide), wσ60.2 13 y (by decide)]; exact wσ44 y y0 y8
                have e22b : σ69 0 22 = σ_33 0 22 := by rw [wσ69.2 0 22 (by decide)]; exact e22
                have e6 := wσ44 store (by omega) (by omega)
                refine zr_iload (pc := 72) hV dX12_readsStore_72 rfl ?_
                refine zr_iconst (pc := 74) hV 1 dX12_readsStore_74 rfl ?_
                refine zr_iadd (pc := 75) hV dX12_readsStore_75 ?_
                refine zr_istore (pc := 76) hV [some (ZR 0), some (ZI o), some (ZI store), some (ZI names), some (ZI r1), some (ZI x5_33), some (ZI (σ44 13 store)), some (ZI ((σ44 13 store) + 1))] dX12_readsStore_76 (by decide) rfl rfl ?_
                have t21 := zx_g22 hσ69
                have t22 : σ69 0 22 = σ60 0 22 := hfσ69 _ _ (by omega)
                have t23 : σ60 0 22 = σ44 0 22 := hfσ60 _ _ (by omega)
                have t24 : σ44 0 22 = σ_33 0 22 := hfσ44 _ _ (by omega)
                have L78 : ∀ (fuel : Nat) (x7_78 : Int) (σ_78 : zq_S), (1 ≤ x7_78 ∧ x7_78 ≤ 4) → (zx_T σ_78) → (∀ a i : Int, (¬ (a = 0 ∧ i = 22) ∧ a ≠ 11 ∧ a ≠ 12 ∧ a ≠ 13) → σ_78 a i = σ a i) → (σ_78 0 22 = σ69 0 22) → (zq_hid (∀ y, 0 ≤ y → y ≤ 8 → σ_78 11 y = zn_o (σ 6) o (σ 3 o) (σ 4 o) (σ 5 o) (zr_s names (σ_33 0 22) x5_33) y)) → (zq_hid (∀ y, 0 ≤ y → y ≤ 8 → y ≠ store → σ_78 13 y = zr_d names x5_33 y)) → (zq_hid (∀ v, zr_d names x5_33 store < v → v < x7_78 → ¬ zn_un (σ 6) o (σ 3 o) (σ 4 o) (σ 5 o) store (zr_s names (σ_33 0 22) x5_33) (zw_up (zr_s names (σ_33 0 22) x5_33) store v) (zr_d names x5_33 store) v)) → (zr_d names x5_33 store < x7_78) → 4 - x7_78 < (fuel : Int) → V 78 [some (ZR 0), some (ZI o), some (ZI store), some (ZI names), some (ZI r1), some (ZI x5_33), some (ZI (σ44 13 store)), some (ZI x7_78)] [] 41 σ_78 := by
                  intro fuel
                  induction fuel with
                  | zero =>
                    intro x7_78 σ_78 hx7_78 hσ_78 hFσ_78 hi78_0 hi78_1 hi78_2 hi78_3 hi78_4 hm78
                    exfalso; omega
                  | succ fuel ih =>
                    intro x7_78 σ_78 hx7_78 hσ_78 hFσ_78 hi78_0 hi78_1 hi78_2 hi78_3 hi78_4 hm78
                    have ih78 := ih
                    show V 78 [some (ZR 0), some (ZI o), some (ZI store), some (ZI names), some (ZI r1), some (ZI x5_33), some (ZI (σ44 13 store)), some (ZI x7_78)] [] 41 σ_78
                    refine zr_iload (pc := 78) hV dX12_readsStore_78 rfl ?_
                    refine zr_iload_n (pc := 80) hV dX12_readsStore_80 rfl rfl ?_
                    refine zr_iload_n (pc := 81) hV dX12_readsStore_81 rfl rfl ?_
                    refine zr_callSp (pc := 82) hV [ZI store, ZI names] (st := [ZI x7_78]) (c_X12_sizeOf2 (σ := σ_78) store names (by omega) (by omega)) dX12_readsStore_82 mX12_310 (by decide) (Nat.le_of_ble_eq_true rfl) (Nat.le_refl _) (fun r82 hr82 pr82 => ?_)
                    refine zr_icmp_ge (pc := 85) hV 133 dX12_readsStore_85 (by decide) (by omega) (by omega) (fun c25 => ?_) (fun c25 => ?_)
                    · show V 133 [some (ZR 0), some (ZI o), some (ZI store), some (ZI names), some (ZI r1), some (ZI x5_33), some (ZI (σ44 13 store)), some (ZI x7_78)] [] 41 σ_78
                      refine zr_iinc (pc := 133) hV [some (ZR 0), some (ZI o), some (ZI store), some (ZI names), some (ZI r1), some (ZI (x5_33 + 1)), some (ZI (σ44 13 store)), some (ZI x7_78)] (x5_33 + 1) dX12_readsStore_133 rfl rfl (by decide) rfl rfl ?_
                      refine zr_goto (pc := 136) hV 33 dX12_readsStore_136 (by decide) ?_
                      have t26 := zx_g22 hσ_78
                      have t27 := zx_g22 hσ_78
                      refine zr_sub (pc := 33) hV [some (ZR 0), some (ZI o), some (ZI store), some (ZI names), some (ZI r1), some (ZI (x5_33 + 1)), none, none] (⟨rfl, rfl, rfl, rfl, rfl, rfl, trivial⟩) ?_
                      exact ih33 (x5_33 + 1) σ_78 (by omega) hσ_78 hFσ_78 (by omega) (fun q q0 q1 => by by_cases c : q = x5_33; (rw [c, show σ_78 0 22 = σ_33 0 22 by omega]; exact fun ⟨v, hv0, hv1, w⟩ => hi78_3 v hv0 (by omega) w); (rw [show σ_78 0 22 = σ_33 0 22 by omega]; exact hi33_1 q q0 (by omega))) (by omega)
                    · show V 88 [some (ZR 0), some (ZI o), some (ZI store), some (ZI names), some (ZI r1), some (ZI x5_33), some (ZI (σ44 13 store)), some (ZI x7_78)] [] 41 σ_78
                      refine zr_aload_n (pc := 88) hV dX12_readsStore_88 rfl rfl ?_
                      refine zr_getR (pc := 89) hV 21 13 dX12_readsStore_89 fX12_56 rfl rfl rfl (by decide) (zx_g21 hσ_78) (by omega) ?_
                      refine zr_iload_n (pc := 92) hV dX12_readsStore_92 rfl rfl ?_
                      refine zr_iload (pc := 93) hV dX12_readsStore_93 rfl ?_
                      refine zr_iast (pc := 95) hV dX12_readsStore_95 rfl (by decide) rfl (by omega) (fun σ95 eσ95 => ?_)
                      have hσ95 : zx_T σ95 := zx_ua13 eσ95 hσ_78 (by omega)
                      have hFσ95 : ∀ a i : Int, (¬ (a = 0 ∧ i = 22) ∧ a ≠ 11 ∧ a ≠ 12 ∧ a ≠ 13) → σ95 a i = σ a i := fun a i h => by rw [eσ95, zq_up_ne (fun q => h.2.2.2 q.1)]; exact hFσ_78 a i h
                      refine zr_aload_n (pc := 96) hV dX12_readsStore_96 rfl rfl ?_
                      refine zr_aload_n (pc := 97) hV dX12_readsStore_97 rfl rfl ?_
                      refine zr_getR (pc := 98) hV 20 12 dX12_readsStore_98 fX12_53 rfl rfl rfl (by decide) (zx_g20 hσ95) (by omega) ?_
                      refine zr_callVv (pc := 101) hV [ZR 12] (st := []) (c_X12_copyAhead2 (σ := σ95) hσ95 12 (by omega)) dX12_readsStore_101 mX12_320 rfl (by decide) (by decide) (Nat.le_of_ble_eq_true rfl) (Nat.le_refl _) (fun σ101 pσ101 => ?_)
                      obtain ⟨hσ101, hfσ101, pσ101, wσ101⟩ := pσ101
                      have hFσ101 : ∀ a i : Int, (¬ (a = 0 ∧ i = 22) ∧ a ≠ 11 ∧ a ≠ 12 ∧ a ≠ 13) → σ101 a i = σ a i := fun a i h => (hfσ101 a i ⟨h.2.1, h.2.2.1⟩).trans (hFσ95 a i h)
                      refine zr_aload_n (pc := 104) hV dX12_readsStore_104 rfl rfl ?_
                      refine zr_iload_n (pc := 105) hV dX12_readsStore_105 rfl rfl ?_
                      refine zr_aload_n (pc := 106) hV dX12_readsStore_106 rfl rfl ?_
                      refine zr_getR (pc := 107) hV 20 12 dX12_readsStore_107 fX12_53 rfl rfl rfl (by decide) (zx_g20 hσ101) (by omega) ?_
                      have t28 := zx_g22 hσ101
                      have t29 : σ101 0 22 = σ95 0 22 := hfσ101 _ _ (by omega)
                      have t30 : σ95 0 22 = σ_78 0 22 := by rw [eσ95]; exact zq_up_ne (by omega)
                      refine zr_callVv (pc := 110) hV [ZI o, ZR 12] (st := []) (c_X12_doNarrow2 (σ := σ101) hσ101 o 12 (by omega) (by omega) (by omega) (zx_A_fr (fun i => hFσ101 5 i (by omega)) (fun i => hFσ101 6 i (by omega)) q3) (by rw [hFσ101 3 o (by omega), hFσ101 4 o (by omega)]; exact q4)) dX12_readsStore_110 mX12_324 rfl (by decide) (by decide) (Nat.le_of_ble_eq_true rfl) (Nat.le_refl _) (fun σ110 pσ110 => ?_)
                      obtain ⟨hσ110, hfσ110, pσ110, wσ110⟩ := pσ110
                      have hFσ110 : ∀ a i : Int, (¬ (a = 0 ∧ i = 22) ∧ a ≠ 11 ∧ a ≠ 12 ∧ a ≠ 13) → σ110 a i = σ a i := fun a i h => (hfσ110 a i ⟨h.2.1, h.2.2.1⟩).trans (hFσ101 a i h)
                      have t31 := zx_g22 hσ101
                      have t32 : σ101 0 22 = σ95 0 22 := hfσ101 _ _ (by omega)
                      have t33 : σ95 0 22 = σ_78 0 22 := by rw [eσ95]; exact zq_up_ne (by omega)
                      have sv := zr_sz_b names store
                      have k13 : ∀ y, σ110 13 y = if y = store then x7_78 else σ_78 13 y := fun y => by rw [wσ110.2 13 y (by decide), wσ101.2 13 y (by decide), eσ95]; by_cases hc : y = store; (rw [if_pos hc, hc, zq_up_same]); (rw [if_neg hc, zq_up_ne (by omega)])
                      have k11 : ∀ y, 0 ≤ y → y ≤ 8 → σ110 11 y = zn_o (σ 6) o (σ 3 o) (σ 4 o) (σ 5 o) (zr_s names (σ_33 0 22) x5_33) y := fun y y0 y8 => by rw [wσ110.2 11 y (by decide), wσ101.2 11 y (by decide), eσ95, zq_up_ne (by omega)]; exact hi78_1 y y0 y8
                      have e22c : σ101 0 22 = σ_33 0 22 := by rw [wσ101.2 0 22 (by decide), eσ95, zq_up_ne (by omega)]; omega
                      have d110 : ∀ y, 0 ≤ y → y ≤ 8 → σ110 12 y = zn_o (σ 6) o (σ 3 o) (σ 4 o) (σ 5 o) (zw_up (zr_s names (σ_33 0 22) x5_33) store x7_78) y := zr_done (i := σ101 0 22) (μ := σ101 12) gR (zn_st_up st ⟨by omega, by omega⟩) (by rw [zn_up_9 (by omega), zr_s_9]; exact e22c) (fun y y0 y8 => by rw [wσ101.1 y y0 y8, eσ95]; show _ = if y = store then x7_78 else zr_s names (σ_33 0 22) x5_33 y; by_cases hc : y = store; (rw [if_pos hc, hc, zq_up_same]); (rw [if_neg hc, zq_up_ne (by omega), zr_s_x y8]; exact hi78_2 y y0 y8 hc)) (by have w := wσ110.1; rw [show σ101 6 = σ 6 from funext (fun i => hFσ101 6 i (by omega)), hFσ101 3 o (by omega), hFσ101 4 o (by omega), hFσ101 5 o (by omega)] at w; exact w)
                      refine zr_aload_n (pc := 113) hV dX12_readsStore_113 rfl rfl ?_
                      refine zr_iload_n (pc := 114) hV dX12_readsStore_114 rfl rfl ?_
                      refine zr_iload (pc := 115) hV dX12_readsStore_115 rfl ?_
                      refine zr_iload (pc := 117) hV dX12_readsStore_117 rfl ?_
                      refine zr_callVp (pc := 119) hV [ZI store, ZI (σ44 13 store), ZI x7_78] (st := []) (c_X12_isReadBy2 (σ := σ110) hσ110 store (σ44 13 store) x7_78 (by omega) (by omega) (by omega)) dX12_readsStore_119 mX12_328 rfl (by decide) (by decide) (Nat.le_of_ble_eq_true rfl) (Nat.le_refl _) (fun r119 hr119 pr119 => ?_)
                      refine zr_if_eq (pc := 122) hV 127 dX12_readsStore_122 (by decide) (by omega) (fun c34 => ?_) (fun c34 => ?_)
                      · show V 127 [some (ZR 0), some (ZI o), some (ZI store), some (ZI names), some (ZI r1), some (ZI x5_33), some (ZI (σ44 13 store)), some (ZI x7_78)] [] 41 σ110
                        refine zr_iinc (pc := 127) hV [some (ZR 0), some (ZI o), some (ZI store), some (ZI names), some (ZI r1), some (ZI x5_33), some (ZI (σ44 13 store)), some (ZI (x7_78 + 1))] (x7_78 + 1) dX12_readsStore_127 rfl rfl (by decide) rfl rfl ?_
                        refine zr_goto (pc := 130) hV 78 dX12_readsStore_130 (by decide) ?_
                        have t35 := zx_g22 hσ110
                        have t36 : σ110 0 22 = σ101 0 22 := hfσ110 _ _ (by omega)
                        have t37 : σ101 0 22 = σ95 0 22 := hfσ101 _ _ (by omega)
                        have t38 : σ95 0 22 = σ_78 0 22 := by rw [eσ95]; exact zq_up_ne (by omega)
                        exact ih78 (x7_78 + 1) σ110 (by omega) hσ110 hFσ110 (by omega) (fun y y0 y8 => k11 y y0 y8) (fun y y0 y8 yx => by rw [k13 y, if_neg yx]; exact hi78_2 y y0 y8 yx) (fun v hv0 hv1 => by by_cases c : v = x7_78; (rw [c]; exact fun q => absurd (pr119.2.mpr ((zr_irb k11 d110 ⟨by omega, by omega⟩).mpr (by rw [e6]; exact q))) (by omega)); exact hi78_3 v hv0 (by omega)) (by omega) (by omega)
                      · show V 125 [some (ZR 0), some (ZI o), some (ZI store), some (ZI names), some (ZI r1), some (ZI x5_33), some (ZI (σ44 13 store)), some (ZI x7_78)] [] 41 σ110
                        refine zr_iconst (pc := 125) hV 1 dX12_readsStore_125 rfl ?_
                        exact zr_zret (pc := 126) hV dX12_readsStore_126 rfl rfl (by omega) ⟨_, rfl, ⟨by decide, by decide⟩, hσ110, hFσ110, (by omega), (show (1 : Int) = 1 ↔ zr_P (σ 6) o (σ 3 o) (σ 4 o) (σ 5 o) store names from ⟨fun _ => ⟨σ_33 0 22, x5_33, ⟨by omega, by omega⟩, ⟨by omega, by omega⟩, x7_78, by omega, by omega, by have z := (zr_irb k11 d110 ⟨by omega, by omega⟩).mp (pr119.2.mp (by omega)); rw [e6] at z; exact z⟩, fun _ => rfl⟩)⟩
                have t39 := zx_g22 hσ69
                have t40 : σ69 0 22 = σ60 0 22 := hfσ69 _ _ (by omega)
                have t41 : σ60 0 22 = σ44 0 22 := hfσ60 _ _ (by omega)
                have t42 : σ44 0 22 = σ_33 0 22 := hfσ44 _ _ (by omega)
                exact L78 (4 - ((σ44 13 store) + 1) + 1 : Int).toNat ((σ44 13 store) + 1) σ69 (by omega) hσ69 hFσ69 (by omega) d69 (fun y y0 y8 _ => e13 y y0 y8) (fun v hv0 hv1 => by exfalso; omega) (by omega) (by omega)
          have t43 := zx_g22 hσ_11
          have t44 := zx_g22 hσ_11
          exact L33 (2147483647 - (0 : Int) + 1 : Int).toNat 0 σ_11 (by omega) hσ_11 hFσ_11 (by omega) (fun q q0 q1 => absurd q1 (by omega)) (by omega)
      refine zr_if_eq (pc := 19) hV 26 dX12_readsStore_19 (by decide) (by omega) (fun c45 => ?_) (fun c45 => ?_)
      · show V 26 [some (ZR 0), some (ZI o), some (ZI store), some (ZI names), some (ZI r1), none, none, none] [ZI (σ_11 0 22)] 41 σ_11
        refine zr_iconst (pc := 26) hV 1 dX12_readsStore_26 rfl ?_
        exact J27 1 (by omega) (by unfold zr_ni; first | rw [if_pos (by omega)] | rw [if_neg (by omega)])
      · show V 22 [some (ZR 0), some (ZI o), some (ZI store), some (ZI names), some (ZI r1), none, none, none] [ZI (σ_11 0 22)] 41 σ_11
        refine zr_iconst (pc := 22) hV 4 dX12_readsStore_22 rfl ?_
        refine zr_goto (pc := 23) hV 27 dX12_readsStore_23 (by decide) ?_
        exact J27 4 (by omega) (by unfold zr_ni; first | rw [if_pos (by omega)] | rw [if_neg (by omega)])
  have t46 := zx_g22 hσ8
  have t47 : σ8 0 22 = 0 := by rw [eσ8]; exact zq_up_same _ _ _ _
  have t48 := zx_g22 hσ8
  have t49 : σ8 0 22 = 0 := by rw [eσ8]; exact zq_up_same _ _ _ _
  have t50 := zx_g22 hσ8
  have t51 : σ8 0 22 = 0 := by rw [eσ8]; exact zq_up_same _ _ _ _
  exact L11 (4 - σ8 0 22 + 1 : Int).toNat σ8 hσ8 hFσ8 (fun i i0 i1 => by exfalso; rw [eσ8, zq_up_same] at i1; omega) (by have z22 : σ8 0 22 = 0 := (by rw [eσ8, zq_up_same]); have nb := zr_ni_b names; omega) (by omega)
set_option maxHeartbeats 800000 in
theorem c_X12_reads2 {σ : zq_S} (hσ : zx_T σ) (order : Int) (q0 : zq_in order) (q1 : zq_hid (0 ≤ order → order < σ 0 3 → σ 8 order < 0 ∨ σ 8 order = zn_bs (zn_P (σ 6) order (σ 3 order) (σ 4 order) (σ 5 order)) 9)) (q2 : zq_hid (zs_gg σ)) (Oσ : zx_O σ) : zq_C zx_w yX12_reads cX12_reads 6 (some .int) 4 100 41 41 [ZR 0, ZI order] σ (zq_pi (fun r τ => zx_T τ ∧ (∀ a i : Int, (¬ (a = 0 ∧ i = 22) ∧ a ≠ 11 ∧ a ≠ 12 ∧ a ≠ 13 ∧ a ≠ 8) → τ a i = σ a i) ∧ (True) ∧ zq_hid ((¬ (0 ≤ order ∧ order < σ 0 3) → r = -1 ∧ ∀ a i, τ a i = σ a i) ∧ (0 ≤ order → order < σ 0 3 → r = zn_bs (zn_P (σ 6) order (σ 3 order) (σ 4 order) (σ 5 order)) 9 ∧ τ 8 order = r ∧ ∀ o, o ≠ order → τ 8 o = σ 8 o)) ∧ zx_O τ)) := by
  refine zq_C_of (by decide) (Nat.le_refl _) (Nat.le_of_ble_eq_true rfl) [some (ZR 0), some (ZI order), none, none, none, none] rfl (fun V hV => ?_)
  show V 0 [some (ZR 0), some (ZI order), none, none, none, none] [] 41 σ
  refine zr_aload_n (pc := 0) hV dX12_reads_0 rfl rfl ?_
  refine zr_iload_n (pc := 1) hV dX12_reads_1 rfl rfl ?_
  refine zr_callVp (pc := 2) hV [ZI order] (st := []) (c_X12_isOrder (σ := σ) hσ order (by omega)) dX12_reads_2 mX12_271 rfl (by decide) (by decide) (Nat.le_of_ble_eq_true rfl) (Nat.le_refl _) (fun r2 hr2 pr2 => ?_)
  have t1 := zx_g3 hσ
  refine zr_if_ne (pc := 5) hV 10 dX12_reads_5 (by decide) (by omega) (fun c2 => ?_) (fun c2 => ?_)
  · show V 10 [some (ZR 0), some (ZI order), none, none, none, none] [] 41 σ
    refine zr_aload_n (pc := 10) hV dX12_reads_10 rfl rfl ?_
    refine zr_getR (pc := 11) hV 11 8 dX12_reads_11 fX12_41 rfl rfl rfl (by decide) (zx_g11 hσ) (by omega) ?_
    refine zr_iload_n (pc := 14) hV dX12_reads_14 rfl rfl ?_
    refine zr_iald (pc := 15) hV dX12_reads_15 rfl (by decide) rfl (by omega) ?_
    have t3 := zx_ga8 hσ order
    refine zr_if_ge (pc := 16) hV 105 dX12_reads_16 (by decide) (by omega) (fun c4 => ?_) (fun c4 => ?_)
    · show V 105 [some (ZR 0), some (ZI order), none, none, none, none] [] 41 σ
      refine zr_aload_n (pc := 105) hV dX12_reads_105 rfl rfl ?_
      refine zr_getR (pc := 106) hV 11 8 dX12_reads_106 fX12_41 rfl rfl rfl (by decide) (zx_g11 hσ) (by omega) ?_
      refine zr_iload_n (pc := 109) hV dX12_reads_109 rfl rfl ?_
      refine zr_iald (pc := 110) hV dX12_reads_110 rfl (by decide) rfl (by omega) ?_
      have t5 := zx_ga8 hσ order
      exact zr_iret (pc := 111) hV dX12_reads_111 rfl rfl ⟨_, rfl, (by omega), hσ, (fun a i _ => rfl), trivial, (show (¬ (0 ≤ order ∧ order < σ 0 3) → (σ 8 order) = -1 ∧ ∀ a i, σ a i = σ a i) ∧ (0 ≤ order → order < σ 0 3 → (σ 8 order) = zn_bs (zn_P (σ 6) order (σ 3 order) (σ 4 order) (σ 5 order)) 9 ∧ σ 8 order = (σ 8 order) ∧ ∀ o, o ≠ order → σ 8 o = σ 8 o) from ⟨fun h => absurd ⟨by omega, by omega⟩ h, fun _ _ => ⟨(q1 (by omega) (by omega)).resolve_left (by omega), rfl, fun _ _ => rfl⟩⟩), Oσ⟩
    · show V 19 [some (ZR 0), some (ZI order), none, none, none, none] [] 41 σ
      refine zr_aload_n (pc := 19) hV dX12_reads_19 rfl rfl ?_
      refine zr_iload_n (pc := 20) hV dX12_reads_20 rfl rfl ?_
      refine zr_callVp (pc := 21) hV [ZI order] (st := []) (c_X12_namesOf3 (σ := σ) hσ order (by omega) (Oσ order (by omega) (by omega)).1) dX12_reads_21 mX12_332 rfl (by decide) (by decide) (Nat.le_of_ble_eq_true rfl) (Nat.le_refl _) (fun r21 hr21 pr21 => ?_)
      have od : σ 3 order = 0 ∨ σ 4 order ≠ 3 := by by_cases c : σ 3 order = 0; exact Or.inl c; exact Or.inr (q2 order (by omega) (by omega) c)
      have gR := zn_g_r hσ (Oσ order (by omega) (by omega)).1 od
      have z3o := zx_ga3 hσ order
      have cR := zr_c_mk gR (by omega) (by omega) (fun k hk q => (pr21.2.2 k hk).mpr q)
      refine zr_istore_n (pc := 24) hV [some (ZR 0), some (ZI order), some (ZI r21), none, none, none] dX12_reads_24 rfl (by decide) rfl rfl ?_
      refine zr_iconst (pc := 25) hV 0 dX12_reads_25 rfl ?_
      refine zr_istore_n (pc := 26) hV [some (ZR 0), some (ZI order), some (ZI r21), some (ZI 0), none, none] dX12_reads_26 rfl (by decide) rfl rfl ?_
      refine zr_iconst (pc := 27) hV 0 dX12_reads_27 rfl ?_
      refine zr_istore (pc := 28) hV [some (ZR 0), some (ZI order), some (ZI r21), some (ZI 0), some (ZI 0), none] dX12_reads_28 (by decide) rfl rfl ?_
      have L30 : ∀ (fuel : Nat) (x3_30 : Int) (x4_30 : Int) (σ_30 : zq_S), (0 ≤ x3_30 ∧ x3_30 ≤ 511) → (0 ≤ x4_30 ∧ x4_30 ≤ 9) → (zx_T σ_30) → (∀ a i : Int, (¬ (a = 0 ∧ i = 22) ∧ a ≠ 11 ∧ a ≠ 12 ∧ a ≠ 13 ∧ a ≠ 8) → σ_30 a i = σ a i) → (zx_O σ_30) → (zq_hid (zn_bsI (zn_P (σ 6) order (σ 3 order) (σ 4 order) (σ 5 order)) x3_30 x4_30)) → (zq_hid (∀ i, σ_30 8 i = σ 8 i)) → (x4_30 ≤ 9) → 9 - x4_30 < (fuel : Int) → V 30 [some (ZR 0), some (ZI order), some (ZI r21), some (ZI x3_30), some (ZI x4_30), none] [] 41 σ_30 := by
        intro fuel
        induction fuel with
        | zero =>
          intro x3_30 x4_30 σ_30 hx3_30 hx4_30 hσ_30 hFσ_30 Oσ_30 hi30_0 hi30_1 hi30_2 hm30
          exfalso; omega
        | succ fuel ih =>
          intro x3_30 x4_30 σ_30 hx3_30 hx4_30 hσ_30 hFσ_30 Oσ_30 hi30_0 hi30_1 hi30_2 hm30
          have ih30 := ih
          show V 30 [some (ZR 0), some (ZI order), some (ZI r21), some (ZI x3_30), some (ZI x4_30), none] [] 41 σ_30
          refine zr_iload (pc := 30) hV dX12_reads_30 rfl ?_
          refine zr_bipush (pc := 32) hV 9 dX12_reads_32 (by decide) ?_
          refine zr_icmp_ge (pc := 34) hV 98 dX12_reads_34 (by decide) (by omega) ⟨by decide, by decide⟩ (fun c6 => ?_) (fun c6 => ?_)
          · show V 98 [some (ZR 0), some (ZI order), some (ZI r21), some (ZI x3_30), some (ZI x4_30), none] [] 41 σ_30
            refine zr_aload_n (pc := 98) hV dX12_reads_98 rfl rfl ?_
            refine zr_getR (pc := 99) hV 11 8 dX12_reads_99 fX12_41 rfl rfl rfl (by decide) (zx_g11 hσ_30) (by omega) ?_
            refine zr_iload_n (pc := 102) hV dX12_reads_102 rfl rfl ?_
            refine zr_iload_n (pc := 103) hV dX12_reads_103 rfl rfl ?_
            refine zr_iast (pc := 104) hV dX12_reads_104 rfl (by decide) rfl (by omega) (fun σ104 eσ104 => ?_)
            have hσ104 : zx_T σ104 := zx_ua8 eσ104 hσ_30 (by omega)
            have hFσ104 : ∀ a i : Int, (¬ (a = 0 ∧ i = 22) ∧ a ≠ 11 ∧ a ≠ 12 ∧ a ≠ 13 ∧ a ≠ 8) → σ104 a i = σ a i := fun a i h => by rw [eσ104, zq_up_ne (fun q => h.2.2.2.2 q.1)]; exact hFσ_30 a i h
            have Oσ104 : zx_O σ104 := zx_O_fr (fun i => by rw [eσ104]; exact zq_up_ne (by omega)) (fun i => by rw [eσ104]; exact zq_up_ne (by omega)) (fun i => by rw [eσ104]; exact zq_up_ne (by omega)) (by rw [eσ104]; exact zq_up_ne (by omega)) (by rw [eσ104]; exact zq_up_ne (by omega)) Oσ_30
            show V 105 [some (ZR 0), some (ZI order), some (ZI r21), some (ZI x3_30), some (ZI x4_30), none] [] 41 σ104
            refine zr_aload_n (pc := 105) hV dX12_reads_105 rfl rfl ?_
            refine zr_getR (pc := 106) hV 11 8 dX12_reads_106 fX12_41 rfl rfl rfl (by decide) (zx_g11 hσ104) (by omega) ?_
            refine zr_iload_n (pc := 109) hV dX12_reads_109 rfl rfl ?_
            refine zr_iald (pc := 110) hV dX12_reads_110 rfl (by decide) rfl (by omega) ?_
            have t7 := zx_ga8 hσ104 order
            have t8 : σ104 8 order = x3_30 := by rw [eσ104]; exact zq_up_same _ _ _ _
            exact zr_iret (pc := 111) hV dX12_reads_111 rfl rfl ⟨_, rfl, (by omega), hσ104, hFσ104, trivial, (show (¬ (0 ≤ order ∧ order < σ 0 3) → (σ104 8 order) = -1 ∧ ∀ a i, σ104 a i = σ a i) ∧ (0 ≤ order → order < σ 0 3 → (σ104 8 order) = zn_bs (zn_P (σ 6) order (σ 3 order) (σ 4 order) (σ 5 order)) 9 ∧ σ104 8 order = (σ104 8 order) ∧ ∀ o, o ≠ order → σ104 8 o = σ 8 o) from ⟨fun h => absurd ⟨by omega, by omega⟩ h, fun _ _ => ⟨by rw [eσ104, zq_up_same]; have h := hi30_0; unfold zq_hid zn_bsI at h; rw [show x4_30 = 9 by omega] at h; exact h, rfl, fun o ho => by rw [eσ104, zq_up_ne (by omega)]; exact hi30_1 o⟩⟩), Oσ104⟩
          · show V 37 [some (ZR 0), some (ZI order), some (ZI r21), some (ZI x3_30), some (ZI x4_30), none] [] 41 σ_30
            have b63 := zn_bsI_b hi30_0 (by omega)
            refine zr_iload (pc := 37) hV dX12_reads_37 rfl ?_
            refine zr_iload_n (pc := 39) hV dX12_reads_39 rfl rfl ?_
            refine zr_callSp (pc := 40) hV [ZI x4_30, ZI r21] (st := []) (c_X12_sizeOf2 (σ := σ_30) x4_30 r21 (by omega) (by omega)) dX12_reads_40 mX12_310 (by decide) (Nat.le_of_ble_eq_true rfl) (Nat.le_refl _) (fun r40 hr40 pr40 => ?_)
            refine zr_iconst (pc := 43) hV 1 dX12_reads_43 rfl ?_
            refine zr_icmp_le (pc := 44) hV 72 dX12_reads_44 (by decide) (by omega) ⟨by decide, by decide⟩ (fun c9 => ?_) (fun c9 => ?_)
            · show V 72 [some (ZR 0), some (ZI order), some (ZI r21), some (ZI x3_30), some (ZI x4_30), none] [] 41 σ_30
              refine zr_iconst (pc := 72) hV 0 dX12_reads_72 rfl ?_
              show V 73 [some (ZR 0), some (ZI order), some (ZI r21), some (ZI x3_30), some (ZI x4_30), none] [ZI 0] 41 σ_30
              refine zr_istore (pc := 73) hV [some (ZR 0), some (ZI order), some (ZI r21), some (ZI x3_30), some (ZI x4_30), some (ZI 0)] dX12_reads_73 (by decide) rfl rfl ?_
              refine zr_iload_n (pc := 75) hV dX12_reads_75 rfl rfl ?_
              refine zr_iload (pc := 76) hV dX12_reads_76 rfl ?_
              refine zr_if_eq (pc := 78) hV 89 dX12_reads_78 (by decide) ⟨by decide, by decide⟩ (fun c10 => ?_) (fun c10 => ?_)
              · show V 89 [some (ZR 0), some (ZI order), some (ZI r21), some (ZI x3_30), some (ZI x4_30), some (ZI 0)] [ZI x3_30] 41 σ_30
                refine zr_iconst (pc := 89) hV 0 dX12_reads_89 rfl ?_
                show V 90 [some (ZR 0), some (ZI order), some (ZI r21), some (ZI x3_30), some (ZI x4_30), some (ZI 0)] [ZI 0, ZI x3_30] 41 σ_30
                refine zr_ior (pc := 90) hV dX12_reads_90 ?_
                have t11 := zq_or_b (x := x3_30) (y := 0) 9 512 (by decide) (by decide) (by omega) (by omega)
                refine zr_istore_n (pc := 91) hV [some (ZR 0), some (ZI order), some (ZI r21), some (ZI (zq_or x3_30 0)), some (ZI x4_30), some (ZI 0)] dX12_reads_91 rfl (by decide) rfl rfl ?_
                refine zr_iinc (pc := 92) hV [some (ZR 0), some (ZI order), some (ZI r21), some (ZI (zq_or x3_30 0)), some (ZI (x4_30 + 1)), some (ZI 0)] (x4_30 + 1) dX12_reads_92 rfl rfl (by decide) rfl rfl ?_
                refine zr_goto (pc := 95) hV 30 dX12_reads_95 (by decide) ?_
                refine zr_sub (pc := 30) hV [some (ZR 0), some (ZI order), some (ZI r21), some (ZI (zq_or x3_30 0)), some (ZI (x4_30 + 1)), none] (⟨rfl, rfl, rfl, rfl, rfl, trivial⟩) ?_
                exact ih30 (zq_or x3_30 0) (x4_30 + 1) σ_30 (by omega) (by omega) hσ_30 hFσ_30 Oσ_30 (by rw [zr_or0 ⟨by omega, by omega⟩]; first | exact zn_bsI_n (b := zn_bit x4_30) (by omega) rfl hi30_0 (Or.inr (zr_P_1 gR cR ⟨by omega, by omega⟩ (by omega))) | exact zn_bsI_n (b := r50) (by omega) pr50.2.2 hi30_0 (Or.inl (by omega))) hi30_1 (by omega) (by omega)
              · exfalso; omega
            · show V 47 [some (ZR 0), some (ZI order), some (ZI r21), some (ZI x3_30), some (ZI x4_30), none] [] 41 σ_30
              refine zr_iload_n (pc := 47) hV dX12_reads_47 rfl rfl ?_
              refine zr_iload (pc := 48) hV dX12_reads_48 rfl ?_
              refine zr_callSp (pc := 50) hV [ZI x4_30] (st := [ZI x3_30]) (c_X12_storeBit2 (σ := σ_30) x4_30 (by omega)) dX12_reads_50 mX12_335 (by decide) (Nat.le_of_ble_eq_true rfl) (Nat.le_refl _) (fun r50 hr50 pr50 => ?_)
              refine zr_iand (pc := 53) hV dX12_reads_53 ?_
              have t12 := zq_and_nnR (x := x3_30) (y := r50) (by omega)
              refine zr_if_ne (pc := 54) hV 72 dX12_reads_54 (by decide) (by omega) (fun c13 => ?_) (fun c13 => ?_)
              · show V 72 [some (ZR 0), some (ZI order), some (ZI r21), some (ZI x3_30), some (ZI x4_30), none] [] 41 σ_30
                refine zr_iconst (pc := 72) hV 0 dX12_reads_72 rfl ?_
                show V 73 [some (ZR 0), some (ZI order), some (ZI r21), some (ZI x3_30), some (ZI x4_30), none] [ZI 0] 41 σ_30
                refine zr_istore (pc := 73) hV [some (ZR 0), some (ZI order), some (ZI r21), some (ZI x3_30), some (ZI x4_30), some (ZI 0)] dX12_reads_73 (by decide) rfl rfl ?_
                refine zr_iload_n (pc := 75) hV dX12_reads_75 rfl rfl ?_
                refine zr_iload (pc := 76) hV dX12_reads_76 rfl ?_
                refine zr_if_eq (pc := 78) hV 89 dX12_reads_78 (by decide) ⟨by decide, by decide⟩ (fun c14 => ?_) (fun c14 => ?_)
                · show V 89 [some (ZR 0), some (ZI order), some (ZI r21), some (ZI x3_30), some (ZI x4_30), some (ZI 0)] [ZI x3_30] 41 σ_30
                  refine zr_iconst (pc := 89) hV 0 dX12_reads_89 rfl ?_
                  show V 90 [some (ZR 0), some (ZI order), some (ZI r21), some (ZI x3_30), some (ZI x4_30), some (ZI 0)] [ZI 0, ZI x3_30] 41 σ_30
                  refine zr_ior (pc := 90) hV dX12_reads_90 ?_
                  have t15 := zq_or_b (x := x3_30) (y := 0) 9 512 (by decide) (by decide) (by omega) (by omega)
                  refine zr_istore_n (pc := 91) hV [some (ZR 0), some (ZI order), some (ZI r21), some (ZI (zq_or x3_30 0)), some (ZI x4_30), some (ZI 0)] dX12_reads_91 rfl (by decide) rfl rfl ?_
                  refine zr_iinc (pc := 92) hV [some (ZR 0), some (ZI order), some (ZI r21), some (ZI (zq_or x3_30 0)), some (ZI (x4_30 + 1)), some (ZI 0)] (x4_30 + 1) dX12_reads_92 rfl rfl (by decide) rfl rfl ?_
                  refine zr_goto (pc := 95) hV 30 dX12_reads_95 (by decide) ?_
                  refine zr_sub (pc := 30) hV [some (ZR 0), some (ZI order), some (ZI r21), some (ZI (zq_or x3_30 0)), some (ZI (x4_30 + 1)), none] (⟨rfl, rfl, rfl, rfl, rfl, trivial⟩) ?_
                  exact ih30 (zq_or x3_30 0) (x4_30 + 1) σ_30 (by omega) (by omega) hσ_30 hFσ_30 Oσ_30 (by rw [zr_or0 ⟨by omega, by omega⟩]; first | exact zn_bsI_n (b := zn_bit x4_30) (by omega) rfl hi30_0 (Or.inr (zr_P_1 gR cR ⟨by omega, by omega⟩ (by omega))) | exact zn_bsI_n (b := r50) (by omega) pr50.2.2 hi30_0 (Or.inl (by omega))) hi30_1 (by omega) (by omega)
                · exfalso; omega
              · show V 57 [some (ZR 0), some (ZI order), some (ZI r21), some (ZI x3_30), some (ZI x4_30), none] [] 41 σ_30
                refine zr_aload_n (pc := 57) hV dX12_reads_57 rfl rfl ?_
                refine zr_iload_n (pc := 58) hV dX12_reads_58 rfl rfl ?_
                refine zr_iload (pc := 59) hV dX12_reads_59 rfl ?_
                refine zr_iload_n (pc := 61) hV dX12_reads_61 rfl rfl ?_
                refine zr_callVi (pc := 62) hV [ZI order, ZI x4_30, ZI r21] (st := []) (c_X12_readsStore2 (σ := σ_30) hσ_30 order x4_30 r21 (by omega) (by omega) (by omega) (zx_A_fr (fun i => hFσ_30 5 i (by omega)) (fun i => hFσ_30 6 i (by omega)) (Oσ order (by omega) (by omega)).1) (by rw [hFσ_30 3 order (by omega), hFσ_30 4 order (by omega)]; exact od)) dX12_reads_62 mX12_338 rfl (by decide) (by decide) (Nat.le_of_ble_eq_true rfl) (Nat.le_refl _) (fun r62 σ62 hr62 pσ62 => ?_)
                obtain ⟨hσ62, hfσ62, pσ62, wσ62⟩ := pσ62
                have Oσ62 : zx_O σ62 := zx_O_fr (fun i => hfσ62 2 i (by omega)) (fun i => hfσ62 5 i (by omega)) (fun i => hfσ62 6 i (by omega)) (hfσ62 0 2 (by omega)) (hfσ62 0 3 (by omega)) Oσ_30
                have hFσ62 : ∀ a i : Int, (¬ (a = 0 ∧ i = 22) ∧ a ≠ 11 ∧ a ≠ 12 ∧ a ≠ 13 ∧ a ≠ 8) → σ62 a i = σ a i := fun a i h => (hfσ62 a i ⟨h.1, h.2.1, h.2.2.1, h.2.2.2.1⟩).trans (hFσ_30 a i h)
                have w62 : r62 = 1 ↔ zr_P (σ 6) order (σ 3 order) (σ 4 order) (σ 5 order) x4_30 r21 := by have w := wσ62; unfold zq_hid at w; rw [show σ_30 6 = σ 6 from funext (fun i => hFσ_30 6 i (by omega)), hFσ_30 3 order (by omega), hFσ_30 4 order (by omega), hFσ_30 5 order (by omega)] at w; exact w
                refine zr_if_eq (pc := 65) hV 72 dX12_reads_65 (by decide) (by omega) (fun c16 => ?_) (fun c16 => ?_)
                · show V 72 [some (ZR 0), some (ZI order), some (ZI r21), some (ZI x3_30), some (ZI x4_30), none] [] 41 σ62
                  refine zr_iconst (pc := 72) hV 0 dX12_reads_72 rfl ?_
                  show V 73 [some (ZR 0), some (ZI order), some (ZI r21), some (ZI x3_30), some (ZI x4_30), none] [ZI 0] 41 σ62
                  refine zr_istore (pc := 73) hV [some (ZR 0), some (ZI order), some (ZI r21), some (ZI x3_30), some (ZI x4_30), some (ZI 0)] dX12_reads_73 (by decide) rfl rfl ?_
                  refine zr_iload_n (pc := 75) hV dX12_reads_75 rfl rfl ?_
                  refine zr_iload (pc := 76) hV dX12_reads_76 rfl ?_
                  refine zr_if_eq (pc := 78) hV 89 dX12_reads_78 (by decide) ⟨by decide, by decide⟩ (fun c17 => ?_) (fun c17 => ?_)
                  · show V 89 [some (ZR 0), some (ZI order), some (ZI r21), some (ZI x3_30), some (ZI x4_30), some (ZI 0)] [ZI x3_30] 41 σ62
                    refine zr_iconst (pc := 89) hV 0 dX12_reads_89 rfl ?_
                    show V 90 [some (ZR 0), some (ZI order), some (ZI r21), some (ZI x3_30), some (ZI x4_30), some (ZI 0)] [ZI 0, ZI x3_30] 41 σ62
                    refine zr_ior (pc := 90) hV dX12_reads_90 ?_
                    have t18 := zq_or_b (x := x3_30) (y := 0) 9 512 (by decide) (by decide) (by omega) (by omega)
                    refine zr_istore_n (pc := 91) hV [some (ZR 0), some (ZI order), some (ZI r21), some (ZI (zq_or x3_30 0)), some (ZI x4_30), some (ZI 0)] dX12_reads_91 rfl (by decide) rfl rfl ?_
                    refine zr_iinc (pc := 92) hV [some (ZR 0), some (ZI order), some (ZI r21), some (ZI (zq_or x3_30 0)), some (ZI (x4_30 + 1)), some (ZI 0)] (x4_30 + 1) dX12_reads_92 rfl rfl (by decide) rfl rfl ?_
                    refine zr_goto (pc := 95) hV 30 dX12_reads_95 (by decide) ?_
                    refine zr_sub (pc := 30) hV [some (ZR 0), some (ZI order), some (ZI r21), some (ZI (zq_or x3_30 0)), some (ZI (x4_30 + 1)), none] (⟨rfl, rfl, rfl, rfl, rfl, trivial⟩) ?_
                    exact ih30 (zq_or x3_30 0) (x4_30 + 1) σ62 (by omega) (by omega) hσ62 hFσ62 Oσ62 (by rw [zr_or0 ⟨by omega, by omega⟩]; exact zn_bsI_n (b := zn_bit x4_30) (by omega) rfl hi30_0 (Or.inr (fun q => by have y := w62.mpr ((zr_P_iff gR cR ⟨by omega, by omega⟩ (by omega)).mpr q); omega))) (fun i => (hfσ62 8 i (by omega)).trans (hi30_1 i)) (by omega) (by omega)
                  · exfalso; omega
                · show V 68 [some (ZR 0), some (ZI order), some (ZI r21), some (ZI x3_30), some (ZI x4_30), none] [] 41 σ62
                  refine zr_iconst (pc := 68) hV 1 dX12_reads_68 rfl ?_
                  refine zr_goto (pc := 69) hV 73 dX12_reads_69 (by decide) ?_
                  show V 73 [some (ZR 0), some (ZI order), some (ZI r21), some (ZI x3_30), some (ZI x4_30), none] [ZI 1] 41 σ62
                  refine zr_istore (pc := 73) hV [some (ZR 0), some (ZI order), some (ZI r21), some (ZI x3_30), some (ZI x4_30), some (ZI 1)] dX12_reads_73 (by decide) rfl rfl ?_
                  refine zr_iload_n (pc := 75) hV dX12_reads_75 rfl rfl ?_
                  refine zr_iload (pc := 76) hV dX12_reads_76 rfl ?_
                  refine zr_if_eq (pc := 78) hV 89 dX12_reads_78 (by decide) ⟨by decide, by decide⟩ (fun c19 => ?_) (fun c19 => ?_)
                  · exfalso; omega
                  · show V 81 [some (ZR 0), some (ZI order), some (ZI r21), some (ZI x3_30), some (ZI x4_30), some (ZI 1)] [ZI x3_30] 41 σ62
                    refine zr_iload (pc := 81) hV dX12_reads_81 rfl ?_
                    refine zr_callSp (pc := 83) hV [ZI x4_30] (st := [ZI x3_30]) (c_X12_storeBit2 (σ := σ62) x4_30 (by omega)) dX12_reads_83 mX12_335 (by decide) (Nat.le_of_ble_eq_true rfl) (Nat.le_refl _) (fun r83 hr83 pr83 => ?_)
                    refine zr_goto (pc := 86) hV 90 dX12_reads_86 (by decide) ?_
                    show V 90 [some (ZR 0), some (ZI order), some (ZI r21), some (ZI x3_30), some (ZI x4_30), some (ZI 1)] [ZI r83, ZI x3_30] 41 σ62
                    refine zr_ior (pc := 90) hV dX12_reads_90 ?_
                    have t20 := zq_or_b (x := x3_30) (y := r83) 9 512 (by decide) (by decide) (by omega) (by omega)
                    refine zr_istore_n (pc := 91) hV [some (ZR 0), some (ZI order), some (ZI r21), some (ZI (zq_or x3_30 r83)), some (ZI x4_30), some (ZI 1)] dX12_reads_91 rfl (by decide) rfl rfl ?_
                    refine zr_iinc (pc := 92) hV [some (ZR 0), some (ZI order), some (ZI r21), some (ZI (zq_or x3_30 r83)), some (ZI (x4_30 + 1)), some (ZI 1)] (x4_30 + 1) dX12_reads_92 rfl rfl (by decide) rfl rfl ?_
                    refine zr_goto (pc := 95) hV 30 dX12_reads_95 (by decide) ?_
                    refine zr_sub (pc := 30) hV [some (ZR 0), some (ZI order), some (ZI r21), some (ZI (zq_or x3_30 r83)), some (ZI (x4_30 + 1)), none] (⟨rfl, rfl, rfl, rfl, rfl, trivial⟩) ?_
                    exact ih30 (zq_or x3_30 r83) (x4_30 + 1) σ62 (by omega) (by omega) hσ62 hFσ62 Oσ62 (zn_bsI_y (by omega) pr83.2.2 hi30_0 (by have e : r83 = r50 := (by omega); rw [e]; omega) ((zr_P_iff gR cR ⟨by omega, by omega⟩ (by omega)).mp (w62.mp (by omega)))) (fun i => (hfσ62 8 i (by omega)).trans (hi30_1 i)) (by omega) (by omega)
      exact L30 (9 - (0 : Int) + 1 : Int).toNat 0 0 σ (by omega) (by omega) hσ (fun a i _ => rfl) Oσ (show (0 : Int) = 0 from rfl) (fun _ => rfl) (by omega) (by omega)
  · show V 8 [some (ZR 0), some (ZI order), none, none, none, none] [] 41 σ
    refine zr_iconst (pc := 8) hV (-1) dX12_reads_8 rfl ?_
    exact zr_iret (pc := 9) hV dX12_reads_9 rfl rfl ⟨_, rfl, ⟨by decide, by decide⟩, hσ, (fun a i _ => rfl), trivial, (show (¬ (0 ≤ order ∧ order < σ 0 3) → ((-1) : Int) = -1 ∧ ∀ a i, σ a i = σ a i) ∧ (0 ≤ order → order < σ 0 3 → ((-1) : Int) = zn_bs (zn_P (σ 6) order (σ 3 order) (σ 4 order) (σ 5 order)) 9 ∧ σ 8 order = ((-1) : Int) ∧ ∀ o, o ≠ order → σ 8 o = σ 8 o) from ⟨fun _ => ⟨rfl, fun _ _ => rfl⟩, fun h1 h2 => by exfalso; omega⟩), Oσ⟩
set_option maxHeartbeats 800000 in
theorem c_X12_writes2 {σ : zq_S} (hσ : zx_T σ) (order : Int) (q0 : zq_in order) (q1 : zq_hid (0 ≤ order → order < σ 0 3 → σ 9 order < 0 ∨ zn_Wm (σ 6) order (σ 3 order) (σ 4 order) (σ 5 order) (σ 9 order))) (q2 : zq_hid (zs_gg σ)) (Oσ : zx_O σ) : zq_C zx_w yX12_writes cX12_writes 7 (some .int) 3 73 41 41 [ZR 0, ZI order] σ (zq_pi (fun r τ => zx_T τ ∧ (∀ a i : Int, (¬ (a = 0 ∧ i = 22) ∧ a ≠ 11 ∧ a ≠ 12 ∧ a ≠ 13 ∧ a ≠ 9) → τ a i = σ a i) ∧ (True) ∧ zq_hid ((¬ (0 ≤ order ∧ order < σ 0 3) → r = -1 ∧ ∀ a i, τ a i = σ a i) ∧ (0 ≤ order → order < σ 0 3 → zn_Wm (σ 6) order (σ 3 order) (σ 4 order) (σ 5 order) r ∧ τ 9 order = r ∧ ∀ o, o ≠ order → τ 9 o = σ 9 o)) ∧ zx_O τ)) := by
  refine zq_C_of (by decide) (Nat.le_refl _) (Nat.le_of_ble_eq_true rfl) [some (ZR 0), some (ZI order), none, none, none, none, none] rfl (fun V hV => ?_)
  show V 0 [some (ZR 0), some (ZI order), none, none, none, none, none] [] 41 σ
  refine zr_aload_n (pc := 0) hV dX12_writes_0 rfl rfl ?_
  refine zr_iload_n (pc := 1) hV dX12_writes_1 rfl rfl ?_
  refine zr_callVp (pc := 2) hV [ZI order] (st := []) (c_X12_isOrder (σ := σ) hσ order (by omega)) dX12_writes_2 mX12_271 rfl (by decide) (by decide) (Nat.le_of_ble_eq_true rfl) (Nat.le_refl _) (fun r2 hr2 pr2 => ?_)
  have t1 := zx_g3 hσ
  refine zr_if_ne (pc := 5) hV 10 dX12_writes_5 (by decide) (by omega) (fun c2 => ?_) (fun c2 => ?_)
  · show V 10 [some (ZR 0), some (ZI order), none, none, none, none, none] [] 41 σ
    refine zr_aload_n (pc := 10) hV dX12_writes_10 rfl rfl ?_
    refine zr_getR (pc := 11) hV 12 9 dX12_writes_11 fX12_44 rfl rfl rfl (by decide) (zx_g12 hσ) (by omega) ?_
    refine zr_iload_n (pc := 14) hV dX12_writes_14 rfl rfl ?_
    refine zr_iald (pc := 15) hV dX12_writes_15 rfl (by decide) rfl (by omega) ?_
    have t3 := zx_ga9 hσ order
    refine zr_if_ge (pc := 16) hV 162 dX12_writes_16 (by decide) (by omega) (fun c4 => ?_) (fun c4 => ?_)
    · show V 162 [some (ZR 0), some (ZI order), none, none, none, none, none] [] 41 σ
      refine zr_aload_n (pc := 162) hV dX12_writes_162 rfl rfl ?_
      refine zr_getR (pc := 163) hV 12 9 dX12_writes_163 fX12_44 rfl rfl rfl (by decide) (zx_g12 hσ) (by omega) ?_
      refine zr_iload_n (pc := 166) hV dX12_writes_166 rfl rfl ?_
      refine zr_iald (pc := 167) hV dX12_writes_167 rfl (by decide) rfl (by omega) ?_
      have t5 := zx_ga9 hσ order
      exact zr_iret (pc := 168) hV dX12_writes_168 rfl rfl ⟨_, rfl, (by omega), hσ, (fun a i _ => rfl), trivial, (show (¬ (0 ≤ order ∧ order < σ 0 3) → (σ 9 order) = -1 ∧ ∀ a i, σ a i = σ a i) ∧ (0 ≤ order → order < σ 0 3 → zn_Wm (σ 6) order (σ 3 order) (σ 4 order) (σ 5 order) (σ 9 order) ∧ σ 9 order = (σ 9 order) ∧ ∀ o, o ≠ order → σ 9 o = σ 9 o) from ⟨fun h => absurd ⟨by omega, by omega⟩ h, fun _ _ => ⟨(q1 (by omega) (by omega)).resolve_left (by omega), rfl, fun _ _ => rfl⟩⟩), Oσ⟩
    · show V 19 [some (ZR 0), some (ZI order), none, none, none, none, none] [] 41 σ
      refine zr_aload_n (pc := 19) hV dX12_writes_19 rfl rfl ?_
      refine zr_iload_n (pc := 20) hV dX12_writes_20 rfl rfl ?_
      refine zr_callVp (pc := 21) hV [ZI order] (st := []) (c_X12_namesOf3 (σ := σ) hσ order (by omega) (Oσ order (by omega) (by omega)).1) dX12_writes_21 mX12_332 rfl (by decide) (by decide) (Nat.le_of_ble_eq_true rfl) (Nat.le_refl _) (fun r21 hr21 pr21 => ?_)
      have od : σ 3 order = 0 ∨ σ 4 order ≠ 3 := by by_cases c : σ 3 order = 0; exact Or.inl c; exact Or.inr (q2 order (by omega) (by omega) c)
      have gR := zn_g_r hσ (Oσ order (by omega) (by omega)).1 od
      have z3o := zx_ga3 hσ order
      have cR := zr_c_mk gR (by omega) (by omega) (fun k hk q => (pr21.2.2 k hk).mpr q)
      refine zr_istore_n (pc := 24) hV [some (ZR 0), some (ZI order), some (ZI r21), none, none, none, none] dX12_writes_24 rfl (by decide) rfl rfl ?_
      refine zr_iconst (pc := 25) hV 0 dX12_writes_25 rfl ?_
      refine zr_istore_n (pc := 26) hV [some (ZR 0), some (ZI order), some (ZI r21), some (ZI 0), none, none, none] dX12_writes_26 rfl (by decide) rfl rfl ?_
      refine zr_iload_n (pc := 27) hV dX12_writes_27 rfl rfl ?_
      refine zr_callSp (pc := 28) hV [ZI r21] (st := []) (c_X12_statesOf2 (σ := σ) r21 (by omega)) dX12_writes_28 mX12_313 (by decide) (Nat.le_of_ble_eq_true rfl) (Nat.le_refl _) (fun r28 hr28 pr28 => ?_)
      refine zr_istore (pc := 31) hV [some (ZR 0), some (ZI order), some (ZI r21), some (ZI 0), some (ZI r28), none, none] dX12_writes_31 (by decide) rfl rfl ?_
      refine zr_aload_n (pc := 33) hV dX12_writes_33 rfl rfl ?_
      refine zr_iconst (pc := 34) hV 0 dX12_writes_34 rfl ?_
      refine zr_putI (pc := 35) hV 22 dX12_writes_35 fX12_293 rfl rfl rfl rfl (by decide) (fun σ35 eσ35 => ?_)
      have hσ35 : zx_T σ35 := zx_u22 eσ35 hσ (by omega)
      have hFσ35 : ∀ a i : Int, (¬ (a = 0 ∧ i = 22) ∧ a ≠ 11 ∧ a ≠ 12 ∧ a ≠ 13 ∧ a ≠ 9) → σ35 a i = σ a i := fun a i h => by rw [eσ35, zq_up_ne h.1]
      have Oσ35 : zx_O σ35 := zx_O_fr (fun i => by rw [eσ35]; exact zq_up_ne (by omega)) (fun i => by rw [eσ35]; exact zq_up_ne (by omega)) (fun i => by rw [eσ35]; exact zq_up_ne (by omega)) (by rw [eσ35]; exact zq_up_ne (by omega)) (by rw [eσ35]; exact zq_up_ne (by omega)) Oσ
      have L38 : ∀ (fuel : Nat) (x3_38 : Int) (σ_38 : zq_S), ((-2147483648) ≤ x3_38 ∧ x3_38 ≤ 2147483647) → (zx_T σ_38) → (∀ a i : Int, (¬ (a = 0 ∧ i = 22) ∧ a ≠ 11 ∧ a ≠ 12 ∧ a ≠ 13 ∧ a ≠ 9) → σ_38 a i = σ a i) → (zx_O σ_38) → (zq_hid (zr_S (σ 6) order (σ 3 order) (σ 4 order) (σ 5 order) x3_38)) → (zq_hid (zr_C (σ 6) order (σ 3 order) (σ 4 order) (σ 5 order) r21 (σ_38 0 22) x3_38)) → (zq_hid (∀ i, σ_38 9 i = σ 9 i)) → (0 ≤ x3_38 ∧ x3_38 ≤ 63) → (0 ≤ σ_38 0 22 ∧ σ_38 0 22 ≤ zr_ni r21) → 4 - σ_38 0 22 < (fuel : Int) → V 38 [some (ZR 0), some (ZI order), some (ZI r21), some (ZI x3_38), some (ZI r28), none, none] [] 41 σ_38 := by
        intro fuel
        induction fuel with
        | zero =>
          intro x3_38 σ_38 hx3_38 hσ_38 hFσ_38 Oσ_38 hi38_0 hi38_1 hi38_2 hi38_3 hi38_4 hm38
          have t6 := zx_g22 hσ_38
          exfalso; omega
        | succ fuel ih =>
          intro x3_38 σ_38 hx3_38 hσ_38 hFσ_38 Oσ_38 hi38_0 hi38_1 hi38_2 hi38_3 hi38_4 hm38
          have ih38 := ih
          show V 38 [some (ZR 0), some (ZI order), some (ZI r21), some (ZI x3_38), some (ZI r28), none, none] [] 41 σ_38
          refine zr_aload_n (pc := 38) hV dX12_writes_38 rfl rfl ?_
          refine zr_getI (pc := 39) hV 22 dX12_writes_39 fX12_293 rfl rfl rfl (by decide) ?_
          have t7 := zx_g22 hσ_38
          refine zr_iload_n (pc := 42) hV dX12_writes_42 rfl rfl ?_
          refine zr_bipush (pc := 43) hV 64 dX12_writes_43 (by decide) ?_
          refine zr_iand (pc := 45) hV dX12_writes_45 ?_
          have t8 := zq_and_nnR (x := r21) (y := 64) (by omega)
          have J54 : ∀ (v0_54 : Int), (1 ≤ v0_54 ∧ v0_54 ≤ 4) → (v0_54 = zr_ni r21) → V 54 [some (ZR 0), some (ZI order), some (ZI r21), some (ZI x3_38), some (ZI r28), none, none] [ZI v0_54, ZI (σ_38 0 22)] 41 σ_38 := by
            intro v0_54 hv0_54 hi54_0
            show V 54 [some (ZR 0), some (ZI order), some (ZI r21), some (ZI x3_38), some (ZI r28), none, none] [ZI v0_54, ZI (σ_38 0 22)] 41 σ_38
            refine zr_icmp_ge (pc := 54) hV 155 dX12_writes_54 (by decide) (by omega) (by omega) (fun c9 => ?_) (fun c9 => ?_)
            · show V 155 [some (ZR 0), some (ZI order), some (ZI r21), some (ZI x3_38), some (ZI r28), none, none] [] 41 σ_38
              refine zr_aload_n (pc := 155) hV dX12_writes_155 rfl rfl ?_
              refine zr_getR (pc := 156) hV 12 9 dX12_writes_156 fX12_44 rfl rfl rfl (by decide) (zx_g12 hσ_38) (by omega) ?_
              refine zr_iload_n (pc := 159) hV dX12_writes_159 rfl rfl ?_
              refine zr_iload_n (pc := 160) hV dX12_writes_160 rfl rfl ?_
              refine zr_iast (pc := 161) hV dX12_writes_161 rfl (by decide) rfl (by omega) (fun σ161 eσ161 => ?_)
              have hσ161 : zx_T σ161 := zx_ua9 eσ161 hσ_38 (by omega)
              have hFσ161 : ∀ a i : Int, (¬ (a = 0 ∧ i = 22) ∧ a ≠ 11 ∧ a ≠ 12 ∧ a ≠ 13 ∧ a ≠ 9) → σ161 a i = σ a i := fun a i h => by rw [eσ161, zq_up_ne (fun q => h.2.2.2.2 q.1)]; exact hFσ_38 a i h
              have Oσ161 : zx_O σ161 := zx_O_fr (fun i => by rw [eσ161]; exact zq_up_ne (by omega)) (fun i => by rw [eσ161]; exact zq_up_ne (by omega)) (fun i => by rw [eσ161]; exact zq_up_ne (by omega)) (by rw [eσ161]; exact zq_up_ne (by omega)) (by rw [eσ161]; exact zq_up_ne (by omega)) Oσ_38
              show V 162 [some (ZR 0), some (ZI order), some (ZI r21), some (ZI x3_38), some (ZI r28), none, none] [] 41 σ161
              refine zr_aload_n (pc := 162) hV dX12_writes_162 rfl rfl ?_
              refine zr_getR (pc := 163) hV 12 9 dX12_writes_163 fX12_44 rfl rfl rfl (by decide) (zx_g12 hσ161) (by omega) ?_
              refine zr_iload_n (pc := 166) hV dX12_writes_166 rfl rfl ?_
              refine zr_iald (pc := 167) hV dX12_writes_167 rfl (by decide) rfl (by omega) ?_
              have t10 := zx_ga9 hσ161 order
              have t11 : σ161 9 order = x3_38 := by rw [eσ161]; exact zq_up_same _ _ _ _
              exact zr_iret (pc := 168) hV dX12_writes_168 rfl rfl ⟨_, rfl, (by omega), hσ161, hFσ161, trivial, (show (¬ (0 ≤ order ∧ order < σ 0 3) → (σ161 9 order) = -1 ∧ ∀ a i, σ161 a i = σ a i) ∧ (0 ≤ order → order < σ 0 3 → zn_Wm (σ 6) order (σ 3 order) (σ 4 order) (σ 5 order) (σ161 9 order) ∧ σ161 9 order = (σ161 9 order) ∧ ∀ o, o ≠ order → σ161 9 o = σ 9 o) from ⟨fun h => absurd ⟨by omega, by omega⟩ h, fun _ _ => ⟨by rw [eσ161, zq_up_same]; exact zr_Wm gR cR ⟨by omega, by omega⟩ hi38_0 (fun i i0 i1 => hi38_1 i i0 (by omega)), rfl, fun o ho => by rw [eσ161, zq_up_ne (by omega)]; exact hi38_2 o⟩⟩), Oσ161⟩
            · show V 57 [some (ZR 0), some (ZI order), some (ZI r21), some (ZI x3_38), some (ZI r28), none, none] [] 41 σ_38
              refine zr_iconst (pc := 57) hV 0 dX12_writes_57 rfl ?_
              refine zr_istore (pc := 58) hV [some (ZR 0), some (ZI order), some (ZI r21), some (ZI x3_38), some (ZI r28), some (ZI 0), none] dX12_writes_58 (by decide) rfl rfl ?_
              have t12 := zx_g22 hσ_38
              have L60 : ∀ (fuel : Nat) (x3_60 : Int) (x5_60 : Int) (σ_60 : zq_S), ((-2147483648) ≤ x3_60 ∧ x3_60 ≤ 2147483647) → (0 ≤ x5_60 ∧ x5_60 ≤ 262144) → (zx_T σ_60) → (∀ a i : Int, (¬ (a = 0 ∧ i = 22) ∧ a ≠ 11 ∧ a ≠ 12 ∧ a ≠ 13 ∧ a ≠ 9) → σ_60 a i = σ a i) → (zx_O σ_60) → (σ_60 0 22 = σ_38 0 22) → (zq_hid (zr_S (σ 6) order (σ 3 order) (σ 4 order) (σ 5 order) x3_60)) → (zq_hid (zr_C (σ 6) order (σ 3 order) (σ 4 order) (σ 5 order) r21 (σ_60 0 22) x3_60)) → (zq_hid (zr_D (σ 6) order (σ 3 order) (σ 4 order) (σ 5 order) r21 (σ_60 0 22) x5_60 x3_60)) → (zq_hid (∀ i, σ_60 9 i = σ 9 i)) → (0 ≤ x3_60 ∧ x3_60 ≤ 63) → 2147483647 - x5_60 < (fuel : Int) → V 60 [some (ZR 0), some (ZI order), some (ZI r21), some (ZI x3_60), some (ZI r28), some (ZI x5_60), none] [] 41 σ_60 := by
                intro fuel
                induction fuel with
                | zero =>
                  intro x3_60 x5_60 σ_60 hx3_60 hx5_60 hσ_60 hFσ_60 Oσ_60 hi60_0 hi60_1 hi60_2 hi60_3 hi60_4 hi60_5 hm60
                  exfalso; omega
                | succ fuel ih =>
                  intro x3_60 x5_60 σ_60 hx3_60 hx5_60 hσ_60 hFσ_60 Oσ_60 hi60_0 hi60_1 hi60_2 hi60_3 hi60_4 hi60_5 hm60
                  have ih60 := ih
                  show V 60 [some (ZR 0), some (ZI order), some (ZI r21), some (ZI x3_60), some (ZI r28), some (ZI x5_60), none] [] 41 σ_60
                  refine zr_iload (pc := 60) hV dX12_writes_60 rfl ?_
                  refine zr_iload (pc := 62) hV dX12_writes_62 rfl ?_
                  refine zr_icmp_ge (pc := 64) hV 142 dX12_writes_64 (by decide) (by omega) (by omega) (fun c13 => ?_) (fun c13 => ?_)
                  · show V 142 [some (ZR 0), some (ZI order), some (ZI r21), some (ZI x3_60), some (ZI r28), some (ZI x5_60), none] [] 41 σ_60
                    refine zr_aload_n (pc := 142) hV dX12_writes_142 rfl rfl ?_
                    refine zr_dup (pc := 143) hV dX12_writes_143 (fun _ => rfl) ?_
                    refine zr_getI (pc := 144) hV 22 dX12_writes_144 fX12_293 rfl rfl rfl (by decide) ?_
                    have t14 := zx_g22 hσ_60
                    refine zr_iconst (pc := 147) hV 1 dX12_writes_147 rfl ?_
                    refine zr_iadd (pc := 148) hV dX12_writes_148 ?_
                    refine zr_putI (pc := 149) hV 22 dX12_writes_149 fX12_293 rfl rfl rfl rfl (by decide) (fun σ149 eσ149 => ?_)
                    have hσ149 : zx_T σ149 := zx_u22 eσ149 hσ_60 (by omega)
                    have hFσ149 : ∀ a i : Int, (¬ (a = 0 ∧ i = 22) ∧ a ≠ 11 ∧ a ≠ 12 ∧ a ≠ 13 ∧ a ≠ 9) → σ149 a i = σ a i := fun a i h => by rw [eσ149, zq_up_ne h.1]; exact hFσ_60 a i h
                    have Oσ149 : zx_O σ149 := zx_O_fr (fun i => by rw [eσ149]; exact zq_up_ne (by omega)) (fun i => by rw [eσ149]; exact zq_up_ne (by omega)) (fun i => by rw [eσ149]; exact zq_up_ne (by omega)) (by rw [eσ149]; exact zq_up_ne (by omega)) (by rw [eσ149]; exact zq_up_ne (by omega)) Oσ_60
                    refine zr_goto (pc := 152) hV 38 dX12_writes_152 (by decide) ?_
                    have t15 := zx_g22 hσ149
                    have t16 : σ149 0 22 = (σ_60 0 22) + 1 := by rw [eσ149]; exact zq_up_same _ _ _ _
                    have t17 := zx_g22 hσ149
                    have t18 : σ149 0 22 = (σ_60 0 22) + 1 := by rw [eσ149]; exact zq_up_same _ _ _ _
                    have t19 := zx_g22 hσ149
                    have t20 : σ149 0 22 = (σ_60 0 22) + 1 := by rw [eσ149]; exact zq_up_same _ _ _ _
                    refine zr_sub (pc := 38) hV [some (ZR 0), some (ZI order), some (ZI r21), some (ZI x3_60), some (ZI r28), none, none] (⟨rfl, rfl, rfl, rfl, rfl, trivial⟩) ?_
                    exact ih38 x3_60 σ149 (by omega) hσ149 hFσ149 Oσ149 hi60_1 (by rw [eσ149, zq_up_same]; exact zr_C_s hi60_2 (fun q q0 q1 => hi60_3 q q0 (by omega))) (fun i => by rw [eσ149, zq_up_ne (by omega)]; exact hi60_4 i) (by omega) (by omega) (by omega)
                  · show V 67 [some (ZR 0), some (ZI order), some (ZI r21), some (ZI x3_60), some (ZI r28), some (ZI x5_60), none] [] 41 σ_60
                    refine zr_aload_n (pc := 67) hV dX12_writes_67 rfl rfl ?_
                    refine zr_iload (pc := 68) hV dX12_writes_68 rfl ?_
                    refine zr_iload_n (pc := 70) hV dX12_writes_70 rfl rfl ?_
                    refine zr_callVv (pc := 71) hV [ZI x5_60, ZI r21] (st := []) (c_X12_setNarrow2 (σ := σ_60) hσ_60 x5_60 r21 (by omega) (by omega) (by omega)) dX12_writes_71 mX12_316 rfl (by decide) (by decide) (Nat.le_of_ble_eq_true rfl) (Nat.le_refl _) (fun σ71 pσ71 => ?_)
                    obtain ⟨hσ71, hfσ71, pσ71, wσ71⟩ := pσ71
                    have Oσ71 : zx_O σ71 := zx_O_fr (fun i => hfσ71 2 i (by omega)) (fun i => hfσ71 5 i (by omega)) (fun i => hfσ71 6 i (by omega)) (hfσ71 0 2 (by omega)) (hfσ71 0 3 (by omega)) Oσ_60
                    have hFσ71 : ∀ a i : Int, (¬ (a = 0 ∧ i = 22) ∧ a ≠ 11 ∧ a ≠ 12 ∧ a ≠ 13 ∧ a ≠ 9) → σ71 a i = σ a i := fun a i h => (hfσ71 a i h.2.2.2.1).trans (hFσ_60 a i h)
                    refine zr_aload_n (pc := 74) hV dX12_writes_74 rfl rfl ?_
                    refine zr_aload_n (pc := 75) hV dX12_writes_75 rfl rfl ?_
                    refine zr_getR (pc := 76) hV 19 11 dX12_writes_76 fX12_50 rfl rfl rfl (by decide) (zx_g19 hσ71) (by omega) ?_
                    refine zr_callVv (pc := 79) hV [ZR 11] (st := []) (c_X12_copyAhead2 (σ := σ71) hσ71 11 (by omega)) dX12_writes_79 mX12_320 rfl (by decide) (by decide) (Nat.le_of_ble_eq_true rfl) (Nat.le_refl _) (fun σ79 pσ79 => ?_)
                    obtain ⟨hσ79, hfσ79, pσ79, wσ79⟩ := pσ79
                    have Oσ79 : zx_O σ79 := zx_O_fr (fun i => hfσ79 2 i (by omega)) (fun i => hfσ79 5 i (by omega)) (fun i => hfσ79 6 i (by omega)) (hfσ79 0 2 (by omega)) (hfσ79 0 3 (by omega)) Oσ71
                    have hFσ79 : ∀ a i : Int, (¬ (a = 0 ∧ i = 22) ∧ a ≠ 11 ∧ a ≠ 12 ∧ a ≠ 13 ∧ a ≠ 9) → σ79 a i = σ a i := fun a i h => (hfσ79 a i ⟨h.2.1, h.2.2.1⟩).trans (hFσ71 a i h)
                    refine zr_aload_n (pc := 82) hV dX12_writes_82 rfl rfl ?_
                    refine zr_iload_n (pc := 83) hV dX12_writes_83 rfl rfl ?_
                    refine zr_aload_n (pc := 84) hV dX12_writes_84 rfl rfl ?_
                    refine zr_getR (pc := 85) hV 19 11 dX12_writes_85 fX12_50 rfl rfl rfl (by decide) (zx_g19 hσ79) (by omega) ?_
                    have t21 := zx_g22 hσ79
                    have t22 : σ79 0 22 = σ71 0 22 := hfσ79 _ _ (by omega)
                    have t23 : σ71 0 22 = σ_60 0 22 := hfσ71 _ _ (by omega)
                    refine zr_callVv (pc := 88) hV [ZI order, ZR 11] (st := []) (c_X12_doNarrow2 (σ := σ79) hσ79 order 11 (by omega) (by omega) (by omega) (zx_A_fr (fun i => hFσ79 5 i (by omega)) (fun i => hFσ79 6 i (by omega)) (Oσ order (by omega) (by omega)).1) (by rw [hFσ79 3 order (by omega), hFσ79 4 order (by omega)]; exact od)) dX12_writes_88 mX12_324 rfl (by decide) (by decide) (Nat.le_of_ble_eq_true rfl) (Nat.le_refl _) (fun σ88 pσ88 => ?_)
                    obtain ⟨hσ88, hfσ88, pσ88, wσ88⟩ := pσ88
                    have Oσ88 : zx_O σ88 := zx_O_fr (fun i => hfσ88 2 i (by omega)) (fun i => hfσ88 5 i (by omega)) (fun i => hfσ88 6 i (by omega)) (hfσ88 0 2 (by omega)) (hfσ88 0 3 (by omega)) Oσ79
                    have hFσ88 : ∀ a i : Int, (¬ (a = 0 ∧ i = 22) ∧ a ≠ 11 ∧ a ≠ 12 ∧ a ≠ 13 ∧ a ≠ 9) → σ88 a i = σ a i := fun a i h => (hfσ88 a i ⟨h.2.1, h.2.2.1⟩).trans (hFσ79 a i h)
                    have t24 := zx_g22 hσ79
                    have t25 : σ79 0 22 = σ71 0 22 := hfσ79 _ _ (by omega)
                    have t26 : σ71 0 22 = σ_60 0 22 := hfσ71 _ _ (by omega)
                    have nb := zr_ni_b r21
                    have st := zr_s_st (N := r21) (i := σ_60 0 22) (q := x5_60) ⟨by omega, by omega⟩
                    have e22 : σ79 0 22 = σ_60 0 22 := by rw [wσ79.2 0 22 (by decide), hfσ71 0 22 (by omega)]
                    have d88 : ∀ y, 0 ≤ y → y ≤ 8 → σ88 11 y = zn_o (σ 6) order (σ 3 order) (σ 4 order) (σ 5 order) (zr_s r21 (σ_60 0 22) x5_60) y := zr_done (i := σ79 0 22) (μ := σ79 11) gR st (by rw [zr_s_9]; exact e22) (fun y y0 y8 => by rw [wσ79.1 y y0 y8, wσ71 y y0 y8, zr_s_x y8]) (by have w := wσ88.1; rw [show σ79 6 = σ 6 from funext (fun i => hFσ79 6 i (by omega)), hFσ79 3 order (by omega), hFσ79 4 order (by omega), hFσ79 5 order (by omega)] at w; exact w)
                    have e13 : ∀ y, 0 ≤ y → y ≤ 8 → σ88 13 y = (zr_s r21 (σ_60 0 22) x5_60) y := fun y y0 y8 => by rw [wσ88.2 13 y (by decide), wσ79.2 13 y (by decide), zr_s_x y8]; exact wσ71 y y0 y8
                    have e22b : σ88 0 22 = σ_60 0 22 := by rw [wσ88.2 0 22 (by decide)]; exact e22
                    have k9 : ∀ i, σ88 9 i = σ_60 9 i := fun i => by rw [wσ88.2 9 i (by decide), wσ79.2 9 i (by decide), hfσ71 9 i (by omega)]
                    refine zr_iconst (pc := 91) hV 0 dX12_writes_91 rfl ?_
                    refine zr_istore (pc := 92) hV [some (ZR 0), some (ZI order), some (ZI r21), some (ZI x3_60), some (ZI r28), some (ZI x5_60), some (ZI 0)] dX12_writes_92 (by decide) rfl rfl ?_
                    have L94 : ∀ (fuel : Nat) (x3_94 : Int) (x6_94 : Int), ((-2147483648) ≤ x3_94 ∧ x3_94 ≤ 2147483647) → (0 ≤ x6_94 ∧ x6_94 ≤ 9) → (zq_hid (zr_S (σ 6) order (σ 3 order) (σ 4 order) (σ 5 order) x3_94)) → (zq_hid (zr_C (σ 6) order (σ 3 order) (σ 4 order) (σ 5 order) r21 (σ_60 0 22) x3_94)) → (zq_hid (zr_D (σ 6) order (σ 3 order) (σ 4 order) (σ 5 order) r21 (σ_60 0 22) x5_60 x3_94)) → (zq_hid (zr_E (σ 6) order (σ 3 order) (σ 4 order) (σ 5 order) (zr_s r21 (σ_60 0 22) x5_60) x6_94 x3_94)) → (0 ≤ x3_94 ∧ x3_94 ≤ 63) → 9 - x6_94 < (fuel : Int) → V 94 [some (ZR 0), some (ZI order), some (ZI r21), some (ZI x3_94), some (ZI r28), some (ZI x5_60), some (ZI x6_94)] [] 41 σ88 := by
                      intro fuel
                      induction fuel with
                      | zero =>
                        intro x3_94 x6_94 hx3_94 hx6_94 hi94_0 hi94_1 hi94_2 hi94_3 hi94_4 hm94
                        exfalso; omega
                      | succ fuel ih =>
                        intro x3_94 x6_94 hx3_94 hx6_94 hi94_0 hi94_1 hi94_2 hi94_3 hi94_4 hm94
                        have ih94 := ih
                        show V 94 [some (ZR 0), some (ZI order), some (ZI r21), some (ZI x3_94), some (ZI r28), some (ZI x5_60), some (ZI x6_94)] [] 41 σ88
                        refine zr_iload (pc := 94) hV dX12_writes_94 rfl ?_
                        refine zr_bipush (pc := 96) hV 9 dX12_writes_96 (by decide) ?_
                        refine zr_icmp_ge (pc := 98) hV 136 dX12_writes_98 (by decide) (by omega) ⟨by decide, by decide⟩ (fun c27 => ?_) (fun c27 => ?_)
                        · show V 136 [some (ZR 0), some (ZI order), some (ZI r21), some (ZI x3_94), some (ZI r28), some (ZI x5_60), some (ZI x6_94)] [] 41 σ88
                          refine zr_iinc (pc := 136) hV [some (ZR 0), some (ZI order), some (ZI r21), some (ZI x3_94), some (ZI r28), some (ZI (x5_60 + 1)), some (ZI x6_94)] (x5_60 + 1) dX12_writes_136 rfl rfl (by decide) rfl rfl ?_
                          refine zr_goto (pc := 139) hV 60 dX12_writes_139 (by decide) ?_
                          have t28 := zx_g22 hσ88
                          have t29 : σ88 0 22 = σ79 0 22 := hfσ88 _ _ (by omega)
                          have t30 : σ79 0 22 = σ71 0 22 := hfσ79 _ _ (by omega)
                          have t31 : σ71 0 22 = σ_60 0 22 := hfσ71 _ _ (by omega)
                          have t32 := zx_g22 hσ88
                          have t33 : σ88 0 22 = σ79 0 22 := hfσ88 _ _ (by omega)
                          have t34 : σ79 0 22 = σ71 0 22 := hfσ79 _ _ (by omega)
                          have t35 : σ71 0 22 = σ_60 0 22 := hfσ71 _ _ (by omega)
                          have t36 := zx_g22 hσ88
                          have t37 : σ88 0 22 = σ79 0 22 := hfσ88 _ _ (by omega)
                          have t38 : σ79 0 22 = σ71 0 22 := hfσ79 _ _ (by omega)
                          have t39 : σ71 0 22 = σ_60 0 22 := hfσ71 _ _ (by omega)
                          refine zr_sub (pc := 60) hV [some (ZR 0), some (ZI order), some (ZI r21), some (ZI x3_94), some (ZI r28), some (ZI (x5_60 + 1)), none] (⟨rfl, rfl, rfl, rfl, rfl, rfl, trivial⟩) ?_
                          exact ih60 x3_94 (x5_60 + 1) σ88 (by omega) (by omega) hσ88 hFσ88 Oσ88 (by omega) hi94_0 (by rw [e22b]; exact hi94_1) (by rw [e22b]; have e := hi94_3; unfold zq_hid at e; rw [show x6_94 = 9 by omega] at e; exact zr_D_s hi94_2 e) (fun i => (k9 i).trans (hi60_4 i)) (by omega) (by omega)
                        · show V 101 [some (ZR 0), some (ZI order), some (ZI r21), some (ZI x3_94), some (ZI r28), some (ZI x5_60), some (ZI x6_94)] [] 41 σ88
                          have d6 := d88 x6_94 (by omega) (by omega)
                          have s6 := e13 x6_94 (by omega) (by omega)
                          have bb6 := (zn_bit_b (x := x6_94) ⟨by omega, by omega⟩).1
                          refine zr_iload_n (pc := 101) hV dX12_writes_101 rfl rfl ?_
                          refine zr_aload_n (pc := 102) hV dX12_writes_102 rfl rfl ?_
                          refine zr_getR (pc := 103) hV 19 11 dX12_writes_103 fX12_50 rfl rfl rfl (by decide) (zx_g19 hσ88) (by omega) ?_
                          refine zr_iload (pc := 106) hV dX12_writes_106 rfl ?_
                          refine zr_iald (pc := 108) hV dX12_writes_108 rfl (by decide) rfl (by omega) ?_
                          have t40 := zx_ga11 hσ88 x6_94
                          refine zr_aload_n (pc := 109) hV dX12_writes_109 rfl rfl ?_
                          refine zr_getR (pc := 110) hV 21 13 dX12_writes_110 fX12_56 rfl rfl rfl (by decide) (zx_g21 hσ88) (by omega) ?_
                          refine zr_iload (pc := 113) hV dX12_writes_113 rfl ?_
                          refine zr_iald (pc := 115) hV dX12_writes_115 rfl (by decide) rfl (by omega) ?_
                          have t41 := zx_ga13 hσ88 x6_94
                          have t42 : σ88 13 x6_94 = σ79 13 x6_94 := hfσ88 _ _ (by omega)
                          have t43 : σ79 13 x6_94 = σ71 13 x6_94 := hfσ79 _ _ (by omega)
                          refine zr_icmp_eq (pc := 116) hV 127 dX12_writes_116 (by decide) (by omega) (by omega) (fun c44 => ?_) (fun c44 => ?_)
                          · show V 127 [some (ZR 0), some (ZI order), some (ZI r21), some (ZI x3_94), some (ZI r28), some (ZI x5_60), some (ZI x6_94)] [ZI x3_94] 41 σ88
                            refine zr_iconst (pc := 127) hV 0 dX12_writes_127 rfl ?_
                            show V 128 [some (ZR 0), some (ZI order), some (ZI r21), some (ZI x3_94), some (ZI r28), some (ZI x5_60), some (ZI x6_94)] [ZI 0, ZI x3_94] 41 σ88
                            refine zr_ior (pc := 128) hV dX12_writes_128 ?_
                            have t45 := zq_or_in x3_94 0
                            refine zr_istore_n (pc := 129) hV [some (ZR 0), some (ZI order), some (ZI r21), some (ZI (zq_or x3_94 0)), some (ZI r28), some (ZI x5_60), some (ZI x6_94)] dX12_writes_129 rfl (by decide) rfl rfl ?_
                            refine zr_iinc (pc := 130) hV [some (ZR 0), some (ZI order), some (ZI r21), some (ZI (zq_or x3_94 0)), some (ZI r28), some (ZI x5_60), some (ZI (x6_94 + 1))] (x6_94 + 1) dX12_writes_130 rfl rfl (by decide) rfl rfl ?_
                            refine zr_goto (pc := 133) hV 94 dX12_writes_133 (by decide) ?_
                            exact ih94 (zq_or x3_94 0) (x6_94 + 1) (by omega) (by omega) (by rw [zr_or0 ⟨by omega, by omega⟩]; exact hi94_0) (by rw [zr_or0 ⟨by omega, by omega⟩]; exact hi94_1) (by rw [zr_or0 ⟨by omega, by omega⟩]; exact hi94_2) (by rw [zr_or0 ⟨by omega, by omega⟩]; exact zr_E_n (by omega) (by omega) hi94_3) (by rw [zr_or0 ⟨by omega, by omega⟩]; omega) (by omega)
                          · show V 119 [some (ZR 0), some (ZI order), some (ZI r21), some (ZI x3_94), some (ZI r28), some (ZI x5_60), some (ZI x6_94)] [ZI x3_94] 41 σ88
                            refine zr_iload (pc := 119) hV dX12_writes_119 rfl ?_
                            refine zr_callSp (pc := 121) hV [ZI x6_94] (st := [ZI x3_94]) (c_X12_storeBit2 (σ := σ88) x6_94 (by omega)) dX12_writes_121 mX12_335 (by decide) (Nat.le_of_ble_eq_true rfl) (Nat.le_refl _) (fun r121 hr121 pr121 => ?_)
                            refine zr_goto (pc := 124) hV 128 dX12_writes_124 (by decide) ?_
                            show V 128 [some (ZR 0), some (ZI order), some (ZI r21), some (ZI x3_94), some (ZI r28), some (ZI x5_60), some (ZI x6_94)] [ZI r121, ZI x3_94] 41 σ88
                            refine zr_ior (pc := 128) hV dX12_writes_128 ?_
                            have t46 := zq_or_in x3_94 r121
                            refine zr_istore_n (pc := 129) hV [some (ZR 0), some (ZI order), some (ZI r21), some (ZI (zq_or x3_94 r121)), some (ZI r28), some (ZI x5_60), some (ZI x6_94)] dX12_writes_129 rfl (by decide) rfl rfl ?_
                            refine zr_iinc (pc := 130) hV [some (ZR 0), some (ZI order), some (ZI r21), some (ZI (zq_or x3_94 r121)), some (ZI r28), some (ZI x5_60), some (ZI (x6_94 + 1))] (x6_94 + 1) dX12_writes_130 rfl rfl (by decide) rfl rfl ?_
                            refine zr_goto (pc := 133) hV 94 dX12_writes_133 (by decide) ?_
                            exact ih94 (zq_or x3_94 r121) (x6_94 + 1) (by omega) (by omega) (zr_S_y ⟨by omega, by omega⟩ ⟨by omega, by omega⟩ pr121.2.2 st (by omega) hi94_0) (zr_C_m ⟨by omega, by omega⟩ ⟨by omega, by omega⟩ hi94_1) (zr_D_m ⟨by omega, by omega⟩ ⟨by omega, by omega⟩ hi94_2) (zr_E_y ⟨by omega, by omega⟩ ⟨by omega, by omega⟩ pr121.2.2 hi94_3) (zn_or63 ⟨by omega, by omega⟩ ⟨by omega, by omega⟩) (by omega)
                    exact L94 (9 - (0 : Int) + 1 : Int).toNat x3_60 0 (by omega) (by omega) hi60_1 hi60_2 hi60_3 zr_E_0 (by omega) (by omega)
              have t47 := zx_g22 hσ_38
              have t48 := zx_g22 hσ_38
              have t49 := zx_g22 hσ_38
              exact L60 (2147483647 - (0 : Int) + 1 : Int).toNat x3_38 0 σ_38 (by omega) (by omega) hσ_38 hFσ_38 Oσ_38 (by omega) hi38_0 hi38_1 (fun q q0 q1 => absurd q1 (by omega)) hi38_2 (by omega) (by omega)
          refine zr_if_eq (pc := 46) hV 53 dX12_writes_46 (by decide) (by omega) (fun c50 => ?_) (fun c50 => ?_)
          · show V 53 [some (ZR 0), some (ZI order), some (ZI r21), some (ZI x3_38), some (ZI r28), none, none] [ZI (σ_38 0 22)] 41 σ_38
            refine zr_iconst (pc := 53) hV 1 dX12_writes_53 rfl ?_
            exact J54 1 (by omega) (by unfold zr_ni; first | rw [if_pos (by omega)] | rw [if_neg (by omega)])
          · show V 49 [some (ZR 0), some (ZI order), some (ZI r21), some (ZI x3_38), some (ZI r28), none, none] [ZI (σ_38 0 22)] 41 σ_38
            refine zr_iconst (pc := 49) hV 4 dX12_writes_49 rfl ?_
            refine zr_goto (pc := 50) hV 54 dX12_writes_50 (by decide) ?_
            exact J54 4 (by omega) (by unfold zr_ni; first | rw [if_pos (by omega)] | rw [if_neg (by omega)])
      have t51 := zx_g22 hσ35
      have t52 : σ35 0 22 = 0 := by rw [eσ35]; exact zq_up_same _ _ _ _
      have t53 := zx_g22 hσ35
      have t54 : σ35 0 22 = 0 := by rw [eσ35]; exact zq_up_same _ _ _ _
      have t55 := zx_g22 hσ35
      have t56 : σ35 0 22 = 0 := by rw [eσ35]; exact zq_up_same _ _ _ _
      exact L38 (4 - σ35 0 22 + 1 : Int).toNat 0 σ35 (by omega) hσ35 hFσ35 Oσ35 (fun k z => absurd z zw_tb_0) (fun i i0 i1 => by exfalso; rw [eσ35, zq_up_same] at i1; omega) (fun i => by rw [eσ35, zq_up_ne (by omega)]) (by omega) (by have z22 : σ35 0 22 = 0 := (by rw [eσ35, zq_up_same]); have nb := zr_ni_b r21; omega) (by omega)
  · show V 8 [some (ZR 0), some (ZI order), none, none, none, none, none] [] 41 σ
    refine zr_iconst (pc := 8) hV (-1) dX12_writes_8 rfl ?_
    exact zr_iret (pc := 9) hV dX12_writes_9 rfl rfl ⟨_, rfl, ⟨by decide, by decide⟩, hσ, (fun a i _ => rfl), trivial, (show (¬ (0 ≤ order ∧ order < σ 0 3) → ((-1) : Int) = -1 ∧ ∀ a i, σ a i = σ a i) ∧ (0 ≤ order → order < σ 0 3 → zn_Wm (σ 6) order (σ 3 order) (σ 4 order) (σ 5 order) ((-1) : Int) ∧ σ 9 order = ((-1) : Int) ∧ ∀ o, o ≠ order → σ 9 o = σ 9 o) from ⟨fun _ => ⟨rfl, fun _ _ => rfl⟩, fun h1 h2 => by exfalso; omega⟩), Oσ⟩
set_option maxHeartbeats 800000 in
theorem c_X12_like2 {σ : zq_S} (hσ : zx_T σ) (one other : Int) (q0 : zq_in one) (q1 : zq_in other) (q2 : zq_hid (zs_gg σ)) (Oσ : zx_O σ) : zq_C zx_w yX12_like cX12_like 7 (some .int) 3 73 41 41 [ZR 0, ZI one, ZI other] σ (zq_pi (fun r τ => zx_T τ ∧ (∀ a i : Int, (¬ (a = 0 ∧ i = 22) ∧ a ≠ 11 ∧ a ≠ 12 ∧ a ≠ 13) → τ a i = σ a i) ∧ (True) ∧ zq_hid ((¬ (0 ≤ one ∧ one < σ 0 3 ∧ 0 ≤ other ∧ other < σ 0 3) → r = -1 ∧ ∀ a i, τ a i = σ a i) ∧ (0 ≤ one → one < σ 0 3 → 0 ≤ other → other < σ 0 3 → (r = 0 ∨ r = 1) ∧ (r = 1 ↔ zn_Lk (σ 6) one (σ 3 one) (σ 4 one) (σ 5 one) (σ 6) other (σ 3 other) (σ 4 other) (σ 5 other)))) ∧ zx_O τ)) := by
  refine zq_C_of (by decide) (Nat.le_refl _) (Nat.le_of_ble_eq_true rfl) [some (ZR 0), some (ZI one), some (ZI other), none, none, none, none] rfl (fun V hV => ?_)
  show V 0 [some (ZR 0), some (ZI one), some (ZI other), none, none, none, none] [] 41 σ
  refine zr_aload_n (pc := 0) hV dX12_like_0 rfl rfl ?_
  refine zr_iload_n (pc := 1) hV dX12_like_1 rfl rfl ?_
  refine zr_callVp (pc := 2) hV [ZI one] (st := []) (c_X12_isOrder (σ := σ) hσ one (by omega)) dX12_like_2 mX12_271 rfl (by decide) (by decide) (Nat.le_of_ble_eq_true rfl) (Nat.le_refl _) (fun r2 hr2 pr2 => ?_)
  have t1 := zx_g3 hσ
  refine zr_if_eq (pc := 5) hV 16 dX12_like_5 (by decide) (by omega) (fun c2 => ?_) (fun c2 => ?_)
  · show V 16 [some (ZR 0), some (ZI one), some (ZI other), none, none, none, none] [] 41 σ
    refine zr_iconst (pc := 16) hV (-1) dX12_like_16 rfl ?_
    exact zr_iret (pc := 17) hV dX12_like_17 rfl rfl ⟨_, rfl, ⟨by decide, by decide⟩, hσ, (fun a i _ => rfl), trivial, (show (¬ (0 ≤ one ∧ one < σ 0 3 ∧ 0 ≤ other ∧ other < σ 0 3) → ((-1) : Int) = -1 ∧ ∀ a i, σ a i = σ a i) ∧ (0 ≤ one → one < σ 0 3 → 0 ≤ other → other < σ 0 3 → (((-1) : Int) = 0 ∨ ((-1) : Int) = 1) ∧ (((-1) : Int) = 1 ↔ zn_Lk (σ 6) one (σ 3 one) (σ 4 one) (σ 5 one) (σ 6) other (σ 3 other) (σ 4 other) (σ 5 other))) from ⟨fun _ => ⟨rfl, fun _ _ => rfl⟩, fun h1 h2 h3 h4 => by exfalso; omega⟩), Oσ⟩
  · show V 8 [some (ZR 0), some (ZI one), some (ZI other), none, none, none, none] [] 41 σ
    refine zr_aload_n (pc := 8) hV dX12_like_8 rfl rfl ?_
    refine zr_iload_n (pc := 9) hV dX12_like_9 rfl rfl ?_
    refine zr_callVp (pc := 10) hV [ZI other] (st := []) (c_X12_isOrder (σ := σ) hσ other (by omega)) dX12_like_10 mX12_271 rfl (by decide) (by decide) (Nat.le_of_ble_eq_true rfl) (Nat.le_refl _) (fun r10 hr10 pr10 => ?_)
    have t3 := zx_g3 hσ
    refine zr_if_ne (pc := 13) hV 18 dX12_like_13 (by decide) (by omega) (fun c4 => ?_) (fun c4 => ?_)
    · show V 18 [some (ZR 0), some (ZI one), some (ZI other), none, none, none, none] [] 41 σ
      refine zr_aload_n (pc := 18) hV dX12_like_18 rfl rfl ?_
      refine zr_iload_n (pc := 19) hV dX12_like_19 rfl rfl ?_
      refine zr_callVp (pc := 20) hV [ZI one] (st := []) (c_X12_namesOf3 (σ := σ) hσ one (by omega) (Oσ one (by omega) (by omega)).1) dX12_like_20 mX12_332 rfl (by decide) (by decide) (Nat.le_of_ble_eq_true rfl) (Nat.le_refl _) (fun r20 hr20 pr20 => ?_)
      refine zr_aload_n (pc := 23) hV dX12_like_23 rfl rfl ?_
      refine zr_iload_n (pc := 24) hV dX12_like_24 rfl rfl ?_
      refine zr_callVp (pc := 25) hV [ZI other] (st := [ZI r20]) (c_X12_namesOf3 (σ := σ) hσ other (by omega) (Oσ other (by omega) (by omega)).1) dX12_like_25 mX12_332 rfl (by decide) (by decide) (Nat.le_of_ble_eq_true rfl) (Nat.le_refl _) (fun r25 hr25 pr25 => ?_)
      refine zr_ior (pc := 28) hV dX12_like_28 ?_
      have t5 := zq_or_b (x := r20) (y := r25) 7 128 (by decide) (by decide) (by omega) (by omega)
      have od1 : σ 3 one = 0 ∨ σ 4 one ≠ 3 := by by_cases c : σ 3 one = 0; exact Or.inl c; exact Or.inr (q2 one (by omega) (by omega) c)
      have g1R := zn_g_r hσ (Oσ one (by omega) (by omega)).1 od1
      have z1o := zx_ga3 hσ one
      have od2 : σ 3 other = 0 ∨ σ 4 other ≠ 3 := by by_cases c : σ 3 other = 0; exact Or.inl c; exact Or.inr (q2 other (by omega) (by omega) c)
      have g2R := zn_g_r hσ (Oσ other (by omega) (by omega)).1 od2
      have z2o := zx_ga3 hσ other
      have nl := zr_or127 (a := r20) (b := r25) ⟨by omega, by omega⟩ ⟨by omega, by omega⟩
      have c1R := zr_c_mk g1R (by omega) nl (fun k hk q => (zw_tb_or (by omega) (by omega)).mpr (Or.inl ((pr20.2.2 k hk).mpr q)))
      have c2R := zr_c_mk g2R (by omega) nl (fun k hk q => (zw_tb_or (by omega) (by omega)).mpr (Or.inr ((pr25.2.2 k hk).mpr q)))
      have lk := zr_Lk g1R c1R g2R c2R
      refine zr_istore_n (pc := 29) hV [some (ZR 0), some (ZI one), some (ZI other), some (ZI (zq_or r20 r25)), none, none, none] dX12_like_29 rfl (by decide) rfl rfl ?_
      refine zr_iload_n (pc := 30) hV dX12_like_30 rfl rfl ?_
      refine zr_callSp (pc := 31) hV [ZI (zq_or r20 r25)] (st := []) (c_X12_statesOf2 (σ := σ) (zq_or r20 r25) (by omega)) dX12_like_31 mX12_313 (by decide) (Nat.le_of_ble_eq_true rfl) (Nat.le_refl _) (fun r31 hr31 pr31 => ?_)
      refine zr_istore (pc := 34) hV [some (ZR 0), some (ZI one), some (ZI other), some (ZI (zq_or r20 r25)), some (ZI r31), none, none] dX12_like_34 (by decide) rfl rfl ?_
      refine zr_aload_n (pc := 36) hV dX12_like_36 rfl rfl ?_
      refine zr_iconst (pc := 37) hV 0 dX12_like_37 rfl ?_
      refine zr_putI (pc := 38) hV 22 dX12_like_38 fX12_293 rfl rfl rfl rfl (by decide) (fun σ38 eσ38 => ?_)
      have hσ38 : zx_T σ38 := zx_u22 eσ38 hσ (by omega)
      have hFσ38 : ∀ a i : Int, (¬ (a = 0 ∧ i = 22) ∧ a ≠ 11 ∧ a ≠ 12 ∧ a ≠ 13) → σ38 a i = σ a i := fun a i h => by rw [eσ38, zq_up_ne h.1]
      have Oσ38 : zx_O σ38 := zx_O_fr (fun i => by rw [eσ38]; exact zq_up_ne (by omega)) (fun i => by rw [eσ38]; exact zq_up_ne (by omega)) (fun i => by rw [eσ38]; exact zq_up_ne (by omega)) (by rw [eσ38]; exact zq_up_ne (by omega)) (by rw [eσ38]; exact zq_up_ne (by omega)) Oσ
      have L41 : ∀ (fuel : Nat) (σ_41 : zq_S), (zx_T σ_41) → (∀ a i : Int, (¬ (a = 0 ∧ i = 22) ∧ a ≠ 11 ∧ a ≠ 12 ∧ a ≠ 13) → σ_41 a i = σ a i) → (zx_O σ_41) → (zq_hid (∀ i, 0 ≤ i → i < σ_41 0 22 → ∀ q, 0 ≤ q → q < zr_m (zq_or r20 r25) 9 → zr_L (σ 6) one (σ 3 one) (σ 4 one) (σ 5 one) (σ 6) other (σ 3 other) (σ 4 other) (σ 5 other) (zr_s (zq_or r20 r25) (i) q))) → (0 ≤ σ_41 0 22 ∧ σ_41 0 22 ≤ zr_ni (zq_or r20 r25)) → 4 - σ_41 0 22 < (fuel : Int) → V 41 [some (ZR 0), some (ZI one), some (ZI other), some (ZI (zq_or r20 r25)), some (ZI r31), none, none] [] 41 σ_41 := by
        intro fuel
        induction fuel with
        | zero =>
          intro σ_41 hσ_41 hFσ_41 Oσ_41 hi41_0 hi41_1 hm41
          have t6 := zx_g22 hσ_41
          exfalso; omega
        | succ fuel ih =>
          intro σ_41 hσ_41 hFσ_41 Oσ_41 hi41_0 hi41_1 hm41
          have ih41 := ih
          show V 41 [some (ZR 0), some (ZI one), some (ZI other), some (ZI (zq_or r20 r25)), some (ZI r31), none, none] [] 41 σ_41
          refine zr_aload_n (pc := 41) hV dX12_like_41 rfl rfl ?_
          refine zr_getI (pc := 42) hV 22 dX12_like_42 fX12_293 rfl rfl rfl (by decide) ?_
          have t7 := zx_g22 hσ_41
          refine zr_iload_n (pc := 45) hV dX12_like_45 rfl rfl ?_
          refine zr_bipush (pc := 46) hV 64 dX12_like_46 (by decide) ?_
          refine zr_iand (pc := 48) hV dX12_like_48 ?_
          have t8 := zq_and_nnR (x := zq_or r20 r25) (y := 64) (by omega)
          have J57 : ∀ (v0_57 : Int), (1 ≤ v0_57 ∧ v0_57 ≤ 4) → (v0_57 = zr_ni (zq_or r20 r25)) → V 57 [some (ZR 0), some (ZI one), some (ZI other), some (ZI (zq_or r20 r25)), some (ZI r31), none, none] [ZI v0_57, ZI (σ_41 0 22)] 41 σ_41 := by
            intro v0_57 hv0_57 hi57_0
            show V 57 [some (ZR 0), some (ZI one), some (ZI other), some (ZI (zq_or r20 r25)), some (ZI r31), none, none] [ZI v0_57, ZI (σ_41 0 22)] 41 σ_41
            refine zr_icmp_ge (pc := 57) hV 165 dX12_like_57 (by decide) (by omega) (by omega) (fun c9 => ?_) (fun c9 => ?_)
            · show V 165 [some (ZR 0), some (ZI one), some (ZI other), some (ZI (zq_or r20 r25)), some (ZI r31), none, none] [] 41 σ_41
              refine zr_iconst (pc := 165) hV 1 dX12_like_165 rfl ?_
              exact zr_iret (pc := 166) hV dX12_like_166 rfl rfl ⟨_, rfl, ⟨by decide, by decide⟩, hσ_41, hFσ_41, trivial, (show (¬ (0 ≤ one ∧ one < σ 0 3 ∧ 0 ≤ other ∧ other < σ 0 3) → (1 : Int) = -1 ∧ ∀ a i, σ_41 a i = σ a i) ∧ (0 ≤ one → one < σ 0 3 → 0 ≤ other → other < σ 0 3 → ((1 : Int) = 0 ∨ (1 : Int) = 1) ∧ ((1 : Int) = 1 ↔ zn_Lk (σ 6) one (σ 3 one) (σ 4 one) (σ 5 one) (σ 6) other (σ 3 other) (σ 4 other) (σ 5 other))) from ⟨fun h => absurd ⟨by omega, by omega, by omega, by omega⟩ h, fun _ _ _ _ => ⟨Or.inr rfl, ⟨fun _ => lk.mp (fun i i0 i1 q qq0 qq1 => hi41_0 i i0 (by omega) q qq0 qq1), fun _ => rfl⟩⟩⟩), Oσ_41⟩
            · show V 60 [some (ZR 0), some (ZI one), some (ZI other), some (ZI (zq_or r20 r25)), some (ZI r31), none, none] [] 41 σ_41
              refine zr_iconst (pc := 60) hV 0 dX12_like_60 rfl ?_
              refine zr_istore (pc := 61) hV [some (ZR 0), some (ZI one), some (ZI other), some (ZI (zq_or r20 r25)), some (ZI r31), some (ZI 0), none] dX12_like_61 (by decide) rfl rfl ?_
              have t10 := zx_g22 hσ_41
              have L63 : ∀ (fuel : Nat) (x5_63 : Int) (σ_63 : zq_S), (0 ≤ x5_63 ∧ x5_63 ≤ 262144) → (zx_T σ_63) → (∀ a i : Int, (¬ (a = 0 ∧ i = 22) ∧ a ≠ 11 ∧ a ≠ 12 ∧ a ≠ 13) → σ_63 a i = σ a i) → (zx_O σ_63) → (σ_63 0 22 = σ_41 0 22) → (zq_hid (∀ q, 0 ≤ q → q < x5_63 → zr_L (σ 6) one (σ 3 one) (σ 4 one) (σ 5 one) (σ 6) other (σ 3 other) (σ 4 other) (σ 5 other) (zr_s (zq_or r20 r25) (σ_63 0 22) q))) → 2147483647 - x5_63 < (fuel : Int) → V 63 [some (ZR 0), some (ZI one), some (ZI other), some (ZI (zq_or r20 r25)), some (ZI r31), some (ZI x5_63), none] [] 41 σ_63 := by
                intro fuel
                induction fuel with
                | zero =>
                  intro x5_63 σ_63 hx5_63 hσ_63 hFσ_63 Oσ_63 hi63_0 hi63_1 hm63
                  exfalso; omega
                | succ fuel ih =>
                  intro x5_63 σ_63 hx5_63 hσ_63 hFσ_63 Oσ_63 hi63_0 hi63_1 hm63
                  have ih63 := ih
                  show V 63 [some (ZR 0), some (ZI one), some (ZI other), some (ZI (zq_or r20 r25)), some (ZI r31), some (ZI x5_63), none] [] 41 σ_63
                  refine zr_iload (pc := 63) hV dX12_like_63 rfl ?_
                  refine zr_iload (pc := 65) hV dX12_like_65 rfl ?_
                  refine zr_icmp_ge (pc := 67) hV 152 dX12_like_67 (by decide) (by omega) (by omega) (fun c11 => ?_) (fun c11 => ?_)
                  · show V 152 [some (ZR 0), some (ZI one), some (ZI other), some (ZI (zq_or r20 r25)), some (ZI r31), some (ZI x5_63), none] [] 41 σ_63
                    refine zr_aload_n (pc := 152) hV dX12_like_152 rfl rfl ?_
                    refine zr_dup (pc := 153) hV dX12_like_153 (fun _ => rfl) ?_
                    refine zr_getI (pc := 154) hV 22 dX12_like_154 fX12_293 rfl rfl rfl (by decide) ?_
                    have t12 := zx_g22 hσ_63
                    refine zr_iconst (pc := 157) hV 1 dX12_like_157 rfl ?_
                    refine zr_iadd (pc := 158) hV dX12_like_158 ?_
                    refine zr_putI (pc := 159) hV 22 dX12_like_159 fX12_293 rfl rfl rfl rfl (by decide) (fun σ159 eσ159 => ?_)
                    have hσ159 : zx_T σ159 := zx_u22 eσ159 hσ_63 (by omega)
                    have hFσ159 : ∀ a i : Int, (¬ (a = 0 ∧ i = 22) ∧ a ≠ 11 ∧ a ≠ 12 ∧ a ≠ 13) → σ159 a i = σ a i := fun a i h => by rw [eσ159, zq_up_ne h.1]; exact hFσ_63 a i h
                    have Oσ159 : zx_O σ159 := zx_O_fr (fun i => by rw [eσ159]; exact zq_up_ne (by omega)) (fun i => by rw [eσ159]; exact zq_up_ne (by omega)) (fun i => by rw [eσ159]; exact zq_up_ne (by omega)) (by rw [eσ159]; exact zq_up_ne (by omega)) (by rw [eσ159]; exact zq_up_ne (by omega)) Oσ_63
                    refine zr_goto (pc := 162) hV 41 dX12_like_162 (by decide) ?_
                    have t13 := zx_g22 hσ159
                    have t14 : σ159 0 22 = (σ_63 0 22) + 1 := by rw [eσ159]; exact zq_up_same _ _ _ _
                    have t15 := zx_g22 hσ159
                    have t16 : σ159 0 22 = (σ_63 0 22) + 1 := by rw [eσ159]; exact zq_up_same _ _ _ _
                    have t17 := zx_g22 hσ159
                    have t18 : σ159 0 22 = (σ_63 0 22) + 1 := by rw [eσ159]; exact zq_up_same _ _ _ _
                    refine zr_sub (pc := 41) hV [some (ZR 0), some (ZI one), some (ZI other), some (ZI (zq_or r20 r25)), some (ZI r31), none, none] (⟨rfl, rfl, rfl, rfl, rfl, trivial⟩) ?_
                    exact ih41 σ159 hσ159 hFσ159 Oσ159 (fun i i0 i1 q qq0 qq1 => by have k22 : σ159 0 22 = σ_63 0 22 + 1 := (by rw [eσ159, zq_up_same]); by_cases c : i = σ_63 0 22; (rw [c]; exact hi63_1 q qq0 (by omega)); exact hi41_0 i i0 (by omega) q qq0 qq1) (by omega) (by omega)
                  · show V 70 [some (ZR 0), some (ZI one), some (ZI other), some (ZI (zq_or r20 r25)), some (ZI r31), some (ZI x5_63), none] [] 41 σ_63
                    refine zr_aload_n (pc := 70) hV dX12_like_70 rfl rfl ?_
                    refine zr_iload (pc := 71) hV dX12_like_71 rfl ?_
                    refine zr_iload_n (pc := 73) hV dX12_like_73 rfl rfl ?_
                    refine zr_callVv (pc := 74) hV [ZI x5_63, ZI (zq_or r20 r25)] (st := []) (c_X12_setNarrow2 (σ := σ_63) hσ_63 x5_63 (zq_or r20 r25) (by omega) (by omega) (by omega)) dX12_like_74 mX12_316 rfl (by decide) (by decide) (Nat.le_of_ble_eq_true rfl) (Nat.le_refl _) (fun σ74 pσ74 => ?_)
                    obtain ⟨hσ74, hfσ74, pσ74, wσ74⟩ := pσ74
                    have Oσ74 : zx_O σ74 := zx_O_fr (fun i => hfσ74 2 i (by omega)) (fun i => hfσ74 5 i (by omega)) (fun i => hfσ74 6 i (by omega)) (hfσ74 0 2 (by omega)) (hfσ74 0 3 (by omega)) Oσ_63
                    have hFσ74 : ∀ a i : Int, (¬ (a = 0 ∧ i = 22) ∧ a ≠ 11 ∧ a ≠ 12 ∧ a ≠ 13) → σ74 a i = σ a i := fun a i h => (hfσ74 a i h.2.2.2).trans (hFσ_63 a i h)
                    refine zr_aload_n (pc := 77) hV dX12_like_77 rfl rfl ?_
                    refine zr_aload_n (pc := 78) hV dX12_like_78 rfl rfl ?_
                    refine zr_getR (pc := 79) hV 19 11 dX12_like_79 fX12_50 rfl rfl rfl (by decide) (zx_g19 hσ74) (by omega) ?_
                    refine zr_callVv (pc := 82) hV [ZR 11] (st := []) (c_X12_copyAhead2 (σ := σ74) hσ74 11 (by omega)) dX12_like_82 mX12_320 rfl (by decide) (by decide) (Nat.le_of_ble_eq_true rfl) (Nat.le_refl _) (fun σ82 pσ82 => ?_)
                    obtain ⟨hσ82, hfσ82, pσ82, wσ82⟩ := pσ82
                    have Oσ82 : zx_O σ82 := zx_O_fr (fun i => hfσ82 2 i (by omega)) (fun i => hfσ82 5 i (by omega)) (fun i => hfσ82 6 i (by omega)) (hfσ82 0 2 (by omega)) (hfσ82 0 3 (by omega)) Oσ74
                    have hFσ82 : ∀ a i : Int, (¬ (a = 0 ∧ i = 22) ∧ a ≠ 11 ∧ a ≠ 12 ∧ a ≠ 13) → σ82 a i = σ a i := fun a i h => (hfσ82 a i ⟨h.2.1, h.2.2.1⟩).trans (hFσ74 a i h)
                    refine zr_aload_n (pc := 85) hV dX12_like_85 rfl rfl ?_
                    refine zr_aload_n (pc := 86) hV dX12_like_86 rfl rfl ?_
                    refine zr_getR (pc := 87) hV 20 12 dX12_like_87 fX12_53 rfl rfl rfl (by decide) (zx_g20 hσ82) (by omega) ?_
                    refine zr_callVv (pc := 90) hV [ZR 12] (st := []) (c_X12_copyAhead2 (σ := σ82) hσ82 12 (by omega)) dX12_like_90 mX12_320 rfl (by decide) (by decide) (Nat.le_of_ble_eq_true rfl) (Nat.le_refl _) (fun σ90 pσ90 => ?_)
                    obtain ⟨hσ90, hfσ90, pσ90, wσ90⟩ := pσ90
                    have Oσ90 : zx_O σ90 := zx_O_fr (fun i => hfσ90 2 i (by omega)) (fun i => hfσ90 5 i (by omega)) (fun i => hfσ90 6 i (by omega)) (hfσ90 0 2 (by omega)) (hfσ90 0 3 (by omega)) Oσ82
                    have hFσ90 : ∀ a i : Int, (¬ (a = 0 ∧ i = 22) ∧ a ≠ 11 ∧ a ≠ 12 ∧ a ≠ 13) → σ90 a i = σ a i := fun a i h => (hfσ90 a i ⟨h.2.1, h.2.2.1⟩).trans (hFσ82 a i h)
                    refine zr_aload_n (pc := 93) hV dX12_like_93 rfl rfl ?_
                    refine zr_iload_n (pc := 94) hV dX12_like_94 rfl rfl ?_
                    refine zr_aload_n (pc := 95) hV dX12_like_95 rfl rfl ?_
                    refine zr_getR (pc := 96) hV 19 11 dX12_like_96 fX12_50 rfl rfl rfl (by decide) (zx_g19 hσ90) (by omega) ?_
                    have t19 := zx_g22 hσ90
                    have t20 : σ90 0 22 = σ82 0 22 := hfσ90 _ _ (by omega)
                    have t21 : σ82 0 22 = σ74 0 22 := hfσ82 _ _ (by omega)
                    have t22 : σ74 0 22 = σ_63 0 22 := hfσ74 _ _ (by omega)
                    refine zr_callVv (pc := 99) hV [ZI one, ZR 11] (st := []) (c_X12_doNarrow2 (σ := σ90) hσ90 one 11 (by omega) (by omega) (by omega) (zx_A_fr (fun i => hFσ90 5 i (by omega)) (fun i => hFσ90 6 i (by omega)) (Oσ one (by omega) (by omega)).1) (by rw [hFσ90 3 one (by omega), hFσ90 4 one (by omega)]; exact od1)) dX12_like_99 mX12_324 rfl (by decide) (by decide) (Nat.le_of_ble_eq_true rfl) (Nat.le_refl _) (fun σ99 pσ99 => ?_)
                    obtain ⟨hσ99, hfσ99, pσ99, wσ99⟩ := pσ99
                    have Oσ99 : zx_O σ99 := zx_O_fr (fun i => hfσ99 2 i (by omega)) (fun i => hfσ99 5 i (by omega)) (fun i => hfσ99 6 i (by omega)) (hfσ99 0 2 (by omega)) (hfσ99 0 3 (by omega)) Oσ90
                    have hFσ99 : ∀ a i : Int, (¬ (a = 0 ∧ i = 22) ∧ a ≠ 11 ∧ a ≠ 12 ∧ a ≠ 13) → σ99 a i = σ a i := fun a i h => (hfσ99 a i ⟨h.2.1, h.2.2.1⟩).trans (hFσ90 a i h)
                    have t23 := zx_g22 hσ90
                    have t24 : σ90 0 22 = σ82 0 22 := hfσ90 _ _ (by omega)
                    have t25 : σ82 0 22 = σ74 0 22 := hfσ82 _ _ (by omega)
                    have t26 : σ74 0 22 = σ_63 0 22 := hfσ74 _ _ (by omega)
                    refine zr_aload_n (pc := 102) hV dX12_like_102 rfl rfl ?_
                    refine zr_iload_n (pc := 103) hV dX12_like_103 rfl rfl ?_
                    refine zr_aload_n (pc := 104) hV dX12_like_104 rfl rfl ?_
                    refine zr_getR (pc := 105) hV 20 12 dX12_like_105 fX12_53 rfl rfl rfl (by decide) (zx_g20 hσ99) (by omega) ?_
                    have t27 := zx_g22 hσ99
                    have t28 : σ99 0 22 = σ90 0 22 := hfσ99 _ _ (by omega)
                    have t29 : σ90 0 22 = σ82 0 22 := hfσ90 _ _ (by omega)
                    have t30 : σ82 0 22 = σ74 0 22 := hfσ82 _ _ (by omega)
                    have t31 : σ74 0 22 = σ_63 0 22 := hfσ74 _ _ (by omega)
                    refine zr_callVv (pc := 108) hV [ZI other, ZR 12] (st := []) (c_X12_doNarrow2 (σ := σ99) hσ99 other 12 (by omega) (by omega) (by omega) (zx_A_fr (fun i => hFσ99 5 i (by omega)) (fun i => hFσ99 6 i (by omega)) (Oσ other (by omega) (by omega)).1) (by rw [hFσ99 3 other (by omega), hFσ99 4 other (by omega)]; exact od2)) dX12_like_108 mX12_324 rfl (by decide) (by decide) (Nat.le_of_ble_eq_true rfl) (Nat.le_refl _) (fun σ108 pσ108 => ?_)
                    obtain ⟨hσ108, hfσ108, pσ108, wσ108⟩ := pσ108
                    have Oσ108 : zx_O σ108 := zx_O_fr (fun i => hfσ108 2 i (by omega)) (fun i => hfσ108 5 i (by omega)) (fun i => hfσ108 6 i (by omega)) (hfσ108 0 2 (by omega)) (hfσ108 0 3 (by omega)) Oσ99
                    have hFσ108 : ∀ a i : Int, (¬ (a = 0 ∧ i = 22) ∧ a ≠ 11 ∧ a ≠ 12 ∧ a ≠ 13) → σ108 a i = σ a i := fun a i h => (hfσ108 a i ⟨h.2.1, h.2.2.1⟩).trans (hFσ99 a i h)
                    have t32 := zx_g22 hσ99
                    have t33 : σ99 0 22 = σ90 0 22 := hfσ99 _ _ (by omega)
                    have t34 : σ90 0 22 = σ82 0 22 := hfσ90 _ _ (by omega)
                    have t35 : σ82 0 22 = σ74 0 22 := hfσ82 _ _ (by omega)
                    have t36 : σ74 0 22 = σ_63 0 22 := hfσ74 _ _ (by omega)
                    have nb := zr_ni_b (zq_or r20 r25)
                    have st := zr_s_st (N := (zq_or r20 r25)) (i := σ_63 0 22) (q := x5_63) ⟨by omega, by omega⟩
                    have e22 : σ82 0 22 = σ_63 0 22 := by rw [wσ82.2 0 22 (by decide), hfσ74 0 22 (by omega)]
                    have e22b : σ90 0 22 = σ_63 0 22 := by rw [wσ90.2 0 22 (by decide)]; exact e22
                    have e22c : σ99 0 22 = σ_63 0 22 := by rw [wσ99.2 0 22 (by decide)]; exact e22b
                    have e22d : σ108 0 22 = σ_63 0 22 := by rw [wσ108.2 0 22 (by decide)]; exact e22c
                    have d99 : ∀ y, 0 ≤ y → y ≤ 8 → σ99 11 y = zn_o (σ 6) one (σ 3 one) (σ 4 one) (σ 5 one) (zr_s (zq_or r20 r25) (σ_63 0 22) x5_63) y := zr_done (i := σ90 0 22) (μ := σ90 11) g1R st (by rw [zr_s_9]; exact e22b) (fun y y0 y8 => by rw [wσ90.2 11 y (by decide), wσ82.1 y y0 y8, wσ74 y y0 y8, zr_s_x y8]) (by have w := wσ99.1; rw [show σ90 6 = σ 6 from funext (fun i => hFσ90 6 i (by omega)), hFσ90 3 one (by omega), hFσ90 4 one (by omega), hFσ90 5 one (by omega)] at w; exact w)
                    have d108 : ∀ y, 0 ≤ y → y ≤ 8 → σ108 12 y = zn_o (σ 6) other (σ 3 other) (σ 4 other) (σ 5 other) (zr_s (zq_or r20 r25) (σ_63 0 22) x5_63) y := zr_done (i := σ99 0 22) (μ := σ99 12) g2R st (by rw [zr_s_9]; exact e22c) (fun y y0 y8 => by rw [wσ99.2 12 y (by decide), wσ90.1 y y0 y8, wσ82.2 13 y (by decide), wσ74 y y0 y8, zr_s_x y8]) (by have w := wσ108.1; rw [show σ99 6 = σ 6 from funext (fun i => hFσ99 6 i (by omega)), hFσ99 3 other (by omega), hFσ99 4 other (by omega), hFσ99 5 other (by omega)] at w; exact w)
                    have d11 : ∀ y, 0 ≤ y → y ≤ 8 → σ108 11 y = zn_o (σ 6) one (σ 3 one) (σ 4 one) (σ 5 one) (zr_s (zq_or r20 r25) (σ_63 0 22) x5_63) y := fun y y0 y8 => by rw [wσ108.2 11 y (by decide)]; exact d99 y y0 y8
                    refine zr_iconst (pc := 111) hV 0 dX12_like_111 rfl ?_
                    refine zr_istore (pc := 112) hV [some (ZR 0), some (ZI one), some (ZI other), some (ZI (zq_or r20 r25)), some (ZI r31), some (ZI x5_63), some (ZI 0)] dX12_like_112 (by decide) rfl rfl ?_
                    have L114 : ∀ (fuel : Nat) (x6_114 : Int), (0 ≤ x6_114 ∧ x6_114 ≤ 9) → (zq_hid (∀ y, 0 ≤ y → y < x6_114 → σ108 11 y = σ108 12 y)) → 9 - x6_114 < (fuel : Int) → V 114 [some (ZR 0), some (ZI one), some (ZI other), some (ZI (zq_or r20 r25)), some (ZI r31), some (ZI x5_63), some (ZI x6_114)] [] 41 σ108 := by
                      intro fuel
                      induction fuel with
                      | zero =>
                        intro x6_114 hx6_114 hi114_0 hm114
                        exfalso; omega
                      | succ fuel ih =>
                        intro x6_114 hx6_114 hi114_0 hm114
                        have ih114 := ih
                        show V 114 [some (ZR 0), some (ZI one), some (ZI other), some (ZI (zq_or r20 r25)), some (ZI r31), some (ZI x5_63), some (ZI x6_114)] [] 41 σ108
                        refine zr_iload (pc := 114) hV dX12_like_114 rfl ?_
                        refine zr_bipush (pc := 116) hV 9 dX12_like_116 (by decide) ?_
                        refine zr_icmp_ge (pc := 118) hV 146 dX12_like_118 (by decide) (by omega) ⟨by decide, by decide⟩ (fun c37 => ?_) (fun c37 => ?_)
                        · show V 146 [some (ZR 0), some (ZI one), some (ZI other), some (ZI (zq_or r20 r25)), some (ZI r31), some (ZI x5_63), some (ZI x6_114)] [] 41 σ108
                          refine zr_iinc (pc := 146) hV [some (ZR 0), some (ZI one), some (ZI other), some (ZI (zq_or r20 r25)), some (ZI r31), some (ZI (x5_63 + 1)), some (ZI x6_114)] (x5_63 + 1) dX12_like_146 rfl rfl (by decide) rfl rfl ?_
                          refine zr_goto (pc := 149) hV 63 dX12_like_149 (by decide) ?_
                          have t38 := zx_g22 hσ108
                          have t39 : σ108 0 22 = σ99 0 22 := hfσ108 _ _ (by omega)
                          have t40 : σ99 0 22 = σ90 0 22 := hfσ99 _ _ (by omega)
                          have t41 : σ90 0 22 = σ82 0 22 := hfσ90 _ _ (by omega)
                          have t42 : σ82 0 22 = σ74 0 22 := hfσ82 _ _ (by omega)
                          have t43 : σ74 0 22 = σ_63 0 22 := hfσ74 _ _ (by omega)
                          have t44 := zx_g22 hσ108
                          have t45 : σ108 0 22 = σ99 0 22 := hfσ108 _ _ (by omega)
                          have t46 : σ99 0 22 = σ90 0 22 := hfσ99 _ _ (by omega)
                          have t47 : σ90 0 22 = σ82 0 22 := hfσ90 _ _ (by omega)
                          have t48 : σ82 0 22 = σ74 0 22 := hfσ82 _ _ (by omega)
                          have t49 : σ74 0 22 = σ_63 0 22 := hfσ74 _ _ (by omega)
                          refine zr_sub (pc := 63) hV [some (ZR 0), some (ZI one), some (ZI other), some (ZI (zq_or r20 r25)), some (ZI r31), some (ZI (x5_63 + 1)), none] (⟨rfl, rfl, rfl, rfl, rfl, rfl, trivial⟩) ?_
                          exact ih63 (x5_63 + 1) σ108 (by omega) hσ108 hFσ108 Oσ108 (by omega) (fun q qq0 qq1 => by rw [e22d]; by_cases c : q = x5_63; (rw [c]; exact fun y y0 y8 => by rw [← d11 y y0 y8, ← d108 y y0 y8]; exact hi114_0 y y0 (by omega)); exact hi63_1 q qq0 (by omega)) (by omega)
                        · show V 121 [some (ZR 0), some (ZI one), some (ZI other), some (ZI (zq_or r20 r25)), some (ZI r31), some (ZI x5_63), some (ZI x6_114)] [] 41 σ108
                          refine zr_aload_n (pc := 121) hV dX12_like_121 rfl rfl ?_
                          refine zr_getR (pc := 122) hV 19 11 dX12_like_122 fX12_50 rfl rfl rfl (by decide) (zx_g19 hσ108) (by omega) ?_
                          refine zr_iload (pc := 125) hV dX12_like_125 rfl ?_
                          refine zr_iald (pc := 127) hV dX12_like_127 rfl (by decide) rfl (by omega) ?_
                          have t50 := zx_ga11 hσ108 x6_114
                          refine zr_aload_n (pc := 128) hV dX12_like_128 rfl rfl ?_
                          refine zr_getR (pc := 129) hV 20 12 dX12_like_129 fX12_53 rfl rfl rfl (by decide) (zx_g20 hσ108) (by omega) ?_
                          refine zr_iload (pc := 132) hV dX12_like_132 rfl ?_
                          refine zr_iald (pc := 134) hV dX12_like_134 rfl (by decide) rfl (by omega) ?_
                          have t51 := zx_ga12 hσ108 x6_114
                          refine zr_icmp_eq (pc := 135) hV 140 dX12_like_135 (by decide) (by omega) (by omega) (fun c52 => ?_) (fun c52 => ?_)
                          · show V 140 [some (ZR 0), some (ZI one), some (ZI other), some (ZI (zq_or r20 r25)), some (ZI r31), some (ZI x5_63), some (ZI x6_114)] [] 41 σ108
                            refine zr_iinc (pc := 140) hV [some (ZR 0), some (ZI one), some (ZI other), some (ZI (zq_or r20 r25)), some (ZI r31), some (ZI x5_63), some (ZI (x6_114 + 1))] (x6_114 + 1) dX12_like_140 rfl rfl (by decide) rfl rfl ?_
                            refine zr_goto (pc := 143) hV 114 dX12_like_143 (by decide) ?_
                            exact ih114 (x6_114 + 1) (by omega) (fun y y0 y1 => if hc : y = x6_114 then (by rw [hc]; omega) else hi114_0 y y0 (by omega)) (by omega)
                          · show V 138 [some (ZR 0), some (ZI one), some (ZI other), some (ZI (zq_or r20 r25)), some (ZI r31), some (ZI x5_63), some (ZI x6_114)] [] 41 σ108
                            refine zr_iconst (pc := 138) hV 0 dX12_like_138 rfl ?_
                            exact zr_iret (pc := 139) hV dX12_like_139 rfl rfl ⟨_, rfl, ⟨by decide, by decide⟩, hσ108, hFσ108, trivial, (show (¬ (0 ≤ one ∧ one < σ 0 3 ∧ 0 ≤ other ∧ other < σ 0 3) → (0 : Int) = -1 ∧ ∀ a i, σ108 a i = σ a i) ∧ (0 ≤ one → one < σ 0 3 → 0 ≤ other → other < σ 0 3 → ((0 : Int) = 0 ∨ (0 : Int) = 1) ∧ ((0 : Int) = 1 ↔ zn_Lk (σ 6) one (σ 3 one) (σ 4 one) (σ 5 one) (σ 6) other (σ 3 other) (σ 4 other) (σ 5 other))) from ⟨fun h => absurd ⟨by omega, by omega, by omega, by omega⟩ h, fun _ _ _ _ => ⟨Or.inl rfl, ⟨fun h => absurd h (by decide), fun h => by exfalso; have z := lk.mpr h (σ_63 0 22) (by omega) (by omega) x5_63 (by omega) (by omega) x6_114 (by omega) (by omega); rw [← d11 x6_114 (by omega) (by omega), ← d108 x6_114 (by omega) (by omega)] at z; omega⟩⟩⟩), Oσ108⟩
                    exact L114 (9 - (0 : Int) + 1 : Int).toNat 0 (by omega) (fun y y0 y1 => absurd y1 (by omega)) (by omega)
              have t53 := zx_g22 hσ_41
              have t54 := zx_g22 hσ_41
              exact L63 (2147483647 - (0 : Int) + 1 : Int).toNat 0 σ_41 (by omega) hσ_41 hFσ_41 Oσ_41 (by omega) (fun q qq0 qq1 => absurd qq1 (by omega)) (by omega)
          refine zr_if_eq (pc := 49) hV 56 dX12_like_49 (by decide) (by omega) (fun c55 => ?_) (fun c55 => ?_)
          · show V 56 [some (ZR 0), some (ZI one), some (ZI other), some (ZI (zq_or r20 r25)), some (ZI r31), none, none] [ZI (σ_41 0 22)] 41 σ_41
            refine zr_iconst (pc := 56) hV 1 dX12_like_56 rfl ?_
            exact J57 1 (by omega) (by unfold zr_ni; first | rw [if_pos (by omega)] | rw [if_neg (by omega)])
          · show V 52 [some (ZR 0), some (ZI one), some (ZI other), some (ZI (zq_or r20 r25)), some (ZI r31), none, none] [ZI (σ_41 0 22)] 41 σ_41
            refine zr_iconst (pc := 52) hV 4 dX12_like_52 rfl ?_
            refine zr_goto (pc := 53) hV 57 dX12_like_53 (by decide) ?_
            exact J57 4 (by omega) (by unfold zr_ni; first | rw [if_pos (by omega)] | rw [if_neg (by omega)])
      have t56 := zx_g22 hσ38
      have t57 : σ38 0 22 = 0 := by rw [eσ38]; exact zq_up_same _ _ _ _
      have t58 := zx_g22 hσ38
      have t59 : σ38 0 22 = 0 := by rw [eσ38]; exact zq_up_same _ _ _ _
      have t60 := zx_g22 hσ38
      have t61 : σ38 0 22 = 0 := by rw [eσ38]; exact zq_up_same _ _ _ _
      exact L41 (4 - σ38 0 22 + 1 : Int).toNat σ38 hσ38 hFσ38 Oσ38 (fun i i0 i1 => by exfalso; rw [eσ38, zq_up_same] at i1; omega) (by have z22 : σ38 0 22 = 0 := (by rw [eσ38, zq_up_same]); have nb := zr_ni_b (zq_or r20 r25); omega) (by omega)
    · show V 16 [some (ZR 0), some (ZI one), some (ZI other), none, none, none, none] [] 41 σ
      refine zr_iconst (pc := 16) hV (-1) dX12_like_16 rfl ?_
      exact zr_iret (pc := 17) hV dX12_like_17 rfl rfl ⟨_, rfl, ⟨by decide, by decide⟩, hσ, (fun a i _ => rfl), trivial, (show (¬ (0 ≤ one ∧ one < σ 0 3 ∧ 0 ≤ other ∧ other < σ 0 3) → ((-1) : Int) = -1 ∧ ∀ a i, σ a i = σ a i) ∧ (0 ≤ one → one < σ 0 3 → 0 ≤ other → other < σ 0 3 → (((-1) : Int) = 0 ∨ ((-1) : Int) = 1) ∧ (((-1) : Int) = 1 ↔ zn_Lk (σ 6) one (σ 3 one) (σ 4 one) (σ 5 one) (σ 6) other (σ 3 other) (σ 4 other) (σ 5 other))) from ⟨fun _ => ⟨rfl, fun _ _ => rfl⟩, fun h1 h2 h3 h4 => by exfalso; omega⟩), Oσ⟩
