set_option maxHeartbeats 800000 in
theorem c_X2_doAfresh {σ : zq_S} (hσ : zc_T σ) (order : Int) (korder : zc_kd order = 4)  : zq_C zc_w yX2_doAfresh cX2_doAfresh 2 (none) 4 88 284 284 [ZR 134, ZR order] σ (zq_pv (fun τ => zc_T τ ∧ zc_Fr [(134, 5), (135, -1), (136, -1), (138, -1)] σ τ ∧ (True))) := by
  refine zq_C_of (by decide) (Nat.le_refl _) (Nat.le_of_ble_eq_true rfl) [some (ZR 134), some (ZR order)] rfl (fun V hV => ?_)
  have poorder := zc_pos korder rfl
  have hFσ := zc_Fr_rf [(134, 5), (135, -1), (136, -1), (138, -1)] σ
  show V 0 [some (ZR 134), some (ZR order)] [] 284 σ
  refine zr_aload_n (pc := 0) hV dX2_doAfresh_0 rfl rfl ?_
  refine zr_getR (pc := 1) hV 2 136 dX2_doAfresh_1 fX2_15 rfl rfl (zc_k134 zc_s134) (zc_pos zc_s134 rfl) (zc_g134_2 hσ zc_s134) (by decide) ?_
  refine zr_iconst (pc := 4) hV (-1) dX2_doAfresh_4 rfl ?_
  refine zr_callSv (pc := 5) hV [ZR 136, ZI (-1)] (st := []) (c_fill (σ := σ) hσ 136 (-1) zc_s136 rfl rfl ⟨by decide, by decide⟩ (fun _ => ⟨by omega, by omega⟩)) dX2_doAfresh_5 mX2_28 (by decide) (Nat.le_of_ble_eq_true rfl) (Nat.le_refl _) (fun σ5 pσ5 => ?_)
  obtain ⟨hσ5, hfσ5, pσ5⟩ := pσ5
  have hFσ5 := zc_Fc hfσ5 rfl hFσ
  refine zr_aload_n (pc := 8) hV dX2_doAfresh_8 rfl rfl ?_
  refine zr_aload_n (pc := 9) hV dX2_doAfresh_9 rfl rfl ?_
  refine zr_callVv (pc := 10) hV [ZR 134] (st := []) (c_X3_doOn_N (σ := σ5) hσ5 order korder) dX2_doAfresh_10 mX2_50 (zc_k4 korder) (zc_pos korder rfl) (by decide) (Nat.le_of_ble_eq_true rfl) (Nat.le_refl _) (fun σ10 pσ10 => ?_)
  obtain ⟨hσ10, hfσ10, pσ10⟩ := pσ10
  have hFσ10 := zc_Fc hfσ10 rfl hFσ5
  exact zr_vret (pc := 13) hV dX2_doAfresh_13 rfl rfl ⟨rfl, hσ10, hFσ10, trivial⟩
set_option maxHeartbeats 800000 in
theorem c_X2_isUnlike {σ : zq_S} (hσ : zc_T σ) (butFor : Int) (q0 : zq_in butFor) : zq_C zc_w yX2_isUnlike cX2_isUnlike 4 (some .boolean) 2 42 284 284 [ZR 134, ZI butFor] σ (zq_pi (fun r τ => zc_T τ ∧ zc_Fr [(134, 5), (135, -1), (138, -1)] σ τ ∧ ((0 ≤ r ∧ r ≤ 1)))) := by
  refine zq_C_of (by decide) (Nat.le_refl _) (Nat.le_of_ble_eq_true rfl) [some (ZR 134), some (ZI butFor), none, none] rfl (fun V hV => ?_)
  have hFσ := zc_Fr_rf [(134, 5), (135, -1), (138, -1)] σ
  show V 0 [some (ZR 134), some (ZI butFor), none, none] [] 284 σ
  refine zr_iconst (pc := 0) hV 0 dX2_isUnlike_0 rfl ?_
  refine zr_istore_n (pc := 1) hV [some (ZR 134), some (ZI butFor), some (ZI 0), none] dX2_isUnlike_1 rfl (by decide) rfl rfl ?_
  have L2 : ∀ (fuel : Nat) (x2_2 : Int) (σ_2 : zq_S), (0 ≤ x2_2 ∧ x2_2 ≤ 9) → (zc_T σ_2) → (zc_Fr [(134, 5), (135, -1), (138, -1)] σ σ_2) → 9 - x2_2 < (fuel : Int) → V 2 [some (ZR 134), some (ZI butFor), some (ZI x2_2), none] [] 284 σ_2 := by
    intro fuel
    induction fuel with
    | zero =>
      intro x2_2 σ_2 hx2_2 hσ_2 hFσ_2 hm2
      exfalso; omega
    | succ fuel ih =>
      intro x2_2 σ_2 hx2_2 hσ_2 hFσ_2 hm2
      have ih2 := ih
      show V 2 [some (ZR 134), some (ZI butFor), some (ZI x2_2), none] [] 284 σ_2
      refine zr_iload_n (pc := 2) hV dX2_isUnlike_2 rfl rfl ?_
      refine zr_bipush (pc := 3) hV 9 dX2_isUnlike_3 (by decide) ?_
      refine zr_icmp_ge (pc := 5) hV 70 dX2_isUnlike_5 (by decide) (by omega) ⟨by decide, by decide⟩ (fun c1 => ?_) (fun c1 => ?_)
      · show V 70 [some (ZR 134), some (ZI butFor), some (ZI x2_2), none] [] 284 σ_2
        refine zr_iconst (pc := 70) hV 0 dX2_isUnlike_70 rfl ?_
        exact zr_zret (pc := 71) hV dX2_isUnlike_71 rfl rfl (by omega) ⟨_, rfl, ⟨by decide, by decide⟩, hσ_2, hFσ_2, (by omega)⟩
      · show V 8 [some (ZR 134), some (ZI butFor), some (ZI x2_2), none] [] 284 σ_2
        refine zr_iload_n (pc := 8) hV dX2_isUnlike_8 rfl rfl ?_
        refine zr_iload_n (pc := 9) hV dX2_isUnlike_9 rfl rfl ?_
        refine zr_icmp_eq (pc := 10) hV 64 dX2_isUnlike_10 (by decide) (by omega) (by omega) (fun c2 => ?_) (fun c2 => ?_)
        · show V 64 [some (ZR 134), some (ZI butFor), some (ZI x2_2), none] [] 284 σ_2
          refine zr_iinc (pc := 64) hV [some (ZR 134), some (ZI butFor), some (ZI (x2_2 + 1)), none] (x2_2 + 1) dX2_isUnlike_64 rfl rfl (by decide) rfl rfl ?_
          refine zr_goto (pc := 67) hV 2 dX2_isUnlike_67 (by decide) ?_
          exact ih2 (x2_2 + 1) σ_2 (by omega) hσ_2 hFσ_2 (by omega)
        · show V 13 [some (ZR 134), some (ZI butFor), some (ZI x2_2), none] [] 284 σ_2
          refine zr_aload_n (pc := 13) hV dX2_isUnlike_13 rfl rfl ?_
          refine zr_getR (pc := 14) hV 3 137 dX2_isUnlike_14 fX2_18 rfl rfl (zc_k134 zc_s134) (zc_pos zc_s134 rfl) (zc_g134_3 hσ_2 zc_s134) (by decide) ?_
          refine zr_iload_n (pc := 17) hV dX2_isUnlike_17 rfl rfl ?_
          refine zr_iald (pc := 18) hV dX2_isUnlike_18 (zc_k137 zc_s137) (zc_pos zc_s137 rfl) rfl (by omega) ?_
          have t3 := zc_ga137 hσ_2 zc_s137 x2_2
          have t4 : σ_2 137 x2_2 = σ 137 x2_2 := hFσ_2 _ _ (zc_out_ar zc_s137 rfl)
          refine zr_aload_n (pc := 19) hV dX2_isUnlike_19 rfl rfl ?_
          refine zr_getR (pc := 20) hV 2 136 dX2_isUnlike_20 fX2_15 rfl rfl (zc_k134 zc_s134) (zc_pos zc_s134 rfl) (zc_g134_2 hσ_2 zc_s134) (by decide) ?_
          refine zr_iload_n (pc := 23) hV dX2_isUnlike_23 rfl rfl ?_
          refine zr_iald (pc := 24) hV dX2_isUnlike_24 (zc_k136 zc_s136) (zc_pos zc_s136 rfl) rfl (by omega) ?_
          have t5 := zc_ga136 hσ_2 zc_s136 x2_2
          have t6 : σ_2 136 x2_2 = σ 136 x2_2 := hFσ_2 _ _ (zc_out_ar zc_s136 rfl)
          refine zr_icmp_eq (pc := 25) hV 64 dX2_isUnlike_25 (by decide) (by omega) (by omega) (fun c7 => ?_) (fun c7 => ?_)
          · show V 64 [some (ZR 134), some (ZI butFor), some (ZI x2_2), none] [] 284 σ_2
            refine zr_iinc (pc := 64) hV [some (ZR 134), some (ZI butFor), some (ZI (x2_2 + 1)), none] (x2_2 + 1) dX2_isUnlike_64 rfl rfl (by decide) rfl rfl ?_
            refine zr_goto (pc := 67) hV 2 dX2_isUnlike_67 (by decide) ?_
            exact ih2 (x2_2 + 1) σ_2 (by omega) hσ_2 hFσ_2 (by omega)
          · show V 28 [some (ZR 134), some (ZI butFor), some (ZI x2_2), none] [] 284 σ_2
            refine zr_aload_n (pc := 28) hV dX2_isUnlike_28 rfl rfl ?_
            refine zr_getR (pc := 29) hV 3 137 dX2_isUnlike_29 fX2_18 rfl rfl (zc_k134 zc_s134) (zc_pos zc_s134 rfl) (zc_g134_3 hσ_2 zc_s134) (by decide) ?_
            refine zr_iload_n (pc := 32) hV dX2_isUnlike_32 rfl rfl ?_
            refine zr_iald (pc := 33) hV dX2_isUnlike_33 (zc_k137 zc_s137) (zc_pos zc_s137 rfl) rfl (by omega) ?_
            have t8 := zc_ga137 hσ_2 zc_s137 x2_2
            have t9 : σ_2 137 x2_2 = σ 137 x2_2 := hFσ_2 _ _ (zc_out_ar zc_s137 rfl)
            refine zr_iconst (pc := 34) hV (-1) dX2_isUnlike_34 rfl ?_
            refine zr_icmp_ne (pc := 35) hV 46 dX2_isUnlike_35 (by decide) (by omega) ⟨by decide, by decide⟩ (fun c10 => ?_) (fun c10 => ?_)
            · show V 46 [some (ZR 134), some (ZI butFor), some (ZI x2_2), none] [] 284 σ_2
              refine zr_aload_n (pc := 46) hV dX2_isUnlike_46 rfl rfl ?_
              refine zr_getR (pc := 47) hV 3 137 dX2_isUnlike_47 fX2_18 rfl rfl (zc_k134 zc_s134) (zc_pos zc_s134 rfl) (zc_g134_3 hσ_2 zc_s134) (by decide) ?_
              refine zr_iload_n (pc := 50) hV dX2_isUnlike_50 rfl rfl ?_
              refine zr_iald (pc := 51) hV dX2_isUnlike_51 (zc_k137 zc_s137) (zc_pos zc_s137 rfl) rfl (by omega) ?_
              have t11 := zc_ga137 hσ_2 zc_s137 x2_2
              have t12 : σ_2 137 x2_2 = σ 137 x2_2 := hFσ_2 _ _ (zc_out_ar zc_s137 rfl)
              show V 52 [some (ZR 134), some (ZI butFor), some (ZI x2_2), none] [ZI (σ_2 137 x2_2)] 284 σ_2
              refine zr_istore_n (pc := 52) hV [some (ZR 134), some (ZI butFor), some (ZI x2_2), some (ZI (σ_2 137 x2_2))] dX2_isUnlike_52 rfl (by decide) rfl rfl ?_
              refine zr_iload_n (pc := 53) hV dX2_isUnlike_53 rfl rfl ?_
              refine zr_aload_n (pc := 54) hV dX2_isUnlike_54 rfl rfl ?_
              refine zr_iload_n (pc := 55) hV dX2_isUnlike_55 rfl rfl ?_
              refine zr_callVi (pc := 56) hV [ZI x2_2] (st := [ZI (σ_2 137 x2_2)]) (c_X2_inSlot (σ := σ_2) hσ_2 x2_2 (by omega)) dX2_isUnlike_56 mX2_47 (zc_k134 zc_s134) (zc_pos zc_s134 rfl) (by decide) (Nat.le_of_ble_eq_true rfl) (Nat.le_refl _) (fun r56 σ56 hr56 pσ56 => ?_)
              obtain ⟨hσ56, hfσ56, pσ56⟩ := pσ56
              have hFσ56 := zc_Fc hfσ56 rfl hFσ_2
              refine zr_icmp_eq (pc := 59) hV 64 dX2_isUnlike_59 (by decide) (by omega) (by omega) (fun c13 => ?_) (fun c13 => ?_)
              · show V 64 [some (ZR 134), some (ZI butFor), some (ZI x2_2), some (ZI (σ_2 137 x2_2))] [] 284 σ56
                refine zr_iinc (pc := 64) hV [some (ZR 134), some (ZI butFor), some (ZI (x2_2 + 1)), some (ZI (σ_2 137 x2_2))] (x2_2 + 1) dX2_isUnlike_64 rfl rfl (by decide) rfl rfl ?_
                refine zr_goto (pc := 67) hV 2 dX2_isUnlike_67 (by decide) ?_
                refine zr_sub (pc := 2) hV [some (ZR 134), some (ZI butFor), some (ZI (x2_2 + 1)), none] (⟨rfl, rfl, rfl, trivial⟩) ?_
                exact ih2 (x2_2 + 1) σ56 (by omega) hσ56 hFσ56 (by omega)
              · show V 62 [some (ZR 134), some (ZI butFor), some (ZI x2_2), some (ZI (σ_2 137 x2_2))] [] 284 σ56
                refine zr_iconst (pc := 62) hV 1 dX2_isUnlike_62 rfl ?_
                exact zr_zret (pc := 63) hV dX2_isUnlike_63 rfl rfl (by omega) ⟨_, rfl, ⟨by decide, by decide⟩, hσ56, hFσ56, (by omega)⟩
            · show V 38 [some (ZR 134), some (ZI butFor), some (ZI x2_2), none] [] 284 σ_2
              refine zr_aload_n (pc := 38) hV dX2_isUnlike_38 rfl rfl ?_
              refine zr_iload_n (pc := 39) hV dX2_isUnlike_39 rfl rfl ?_
              refine zr_callVi (pc := 40) hV [ZI x2_2] (st := []) (c_X2_aheadIn (σ := σ_2) hσ_2 x2_2 (by omega)) dX2_isUnlike_40 mX2_41 (zc_k134 zc_s134) (zc_pos zc_s134 rfl) (by decide) (Nat.le_of_ble_eq_true rfl) (Nat.le_refl _) (fun r40 σ40 hr40 pσ40 => ?_)
              obtain ⟨hσ40, hfσ40, pσ40⟩ := pσ40
              have hFσ40 := zc_Fc hfσ40 rfl hFσ_2
              refine zr_goto (pc := 43) hV 52 dX2_isUnlike_43 (by decide) ?_
              show V 52 [some (ZR 134), some (ZI butFor), some (ZI x2_2), none] [ZI r40] 284 σ40
              refine zr_istore_n (pc := 52) hV [some (ZR 134), some (ZI butFor), some (ZI x2_2), some (ZI r40)] dX2_isUnlike_52 rfl (by decide) rfl rfl ?_
              refine zr_iload_n (pc := 53) hV dX2_isUnlike_53 rfl rfl ?_
              refine zr_aload_n (pc := 54) hV dX2_isUnlike_54 rfl rfl ?_
              refine zr_iload_n (pc := 55) hV dX2_isUnlike_55 rfl rfl ?_
              refine zr_callVi (pc := 56) hV [ZI x2_2] (st := [ZI r40]) (c_X2_inSlot (σ := σ40) hσ40 x2_2 (by omega)) dX2_isUnlike_56 mX2_47 (zc_k134 zc_s134) (zc_pos zc_s134 rfl) (by decide) (Nat.le_of_ble_eq_true rfl) (Nat.le_refl _) (fun r56 σ56 hr56 pσ56 => ?_)
              obtain ⟨hσ56, hfσ56, pσ56⟩ := pσ56
              have hFσ56 := zc_Fc hfσ56 rfl hFσ40
              refine zr_icmp_eq (pc := 59) hV 64 dX2_isUnlike_59 (by decide) (by omega) (by omega) (fun c14 => ?_) (fun c14 => ?_)
              · show V 64 [some (ZR 134), some (ZI butFor), some (ZI x2_2), some (ZI r40)] [] 284 σ56
                refine zr_iinc (pc := 64) hV [some (ZR 134), some (ZI butFor), some (ZI (x2_2 + 1)), some (ZI r40)] (x2_2 + 1) dX2_isUnlike_64 rfl rfl (by decide) rfl rfl ?_
                refine zr_goto (pc := 67) hV 2 dX2_isUnlike_67 (by decide) ?_
                refine zr_sub (pc := 2) hV [some (ZR 134), some (ZI butFor), some (ZI (x2_2 + 1)), none] (⟨rfl, rfl, rfl, trivial⟩) ?_
                exact ih2 (x2_2 + 1) σ56 (by omega) hσ56 hFσ56 (by omega)
              · show V 62 [some (ZR 134), some (ZI butFor), some (ZI x2_2), some (ZI r40)] [] 284 σ56
                refine zr_iconst (pc := 62) hV 1 dX2_isUnlike_62 rfl ?_
                exact zr_zret (pc := 63) hV dX2_isUnlike_63 rfl rfl (by omega) ⟨_, rfl, ⟨by decide, by decide⟩, hσ56, hFσ56, (by omega)⟩
  exact L2 (9 - (0 : Int) + 1 : Int).toNat 0 σ (by omega) hσ hFσ (by omega)
set_option maxHeartbeats 800000 in
theorem c_X2_isSeenBehind {σ : zq_S} (hσ : zc_T σ) (order : Int) (korder : zc_kd order = 4) (slot : Int) (q0 : 0 ≤ slot ∧ slot ≤ 8) : zq_C zc_w yX2_isSeenBehind cX2_isSeenBehind 8 (some .boolean) 4 88 284 284 [ZR 134, ZR order, ZI slot] σ (zq_pi (fun r τ => zc_T τ ∧ zc_Fr [(134, 5), (135, -1), (136, -1), (137, -1), (138, -1)] σ τ ∧ ((0 ≤ r ∧ r ≤ 1)))) := by
  refine zq_C_of (by decide) (Nat.le_refl _) (Nat.le_of_ble_eq_true rfl) [some (ZR 134), some (ZR order), some (ZI slot), none, none, none, none, none] rfl (fun V hV => ?_)
  have poorder := zc_pos korder rfl
  have hFσ := zc_Fr_rf [(134, 5), (135, -1), (136, -1), (137, -1), (138, -1)] σ
  show V 0 [some (ZR 134), some (ZR order), some (ZI slot), none, none, none, none, none] [] 284 σ
  refine zr_iconst (pc := 0) hV 1 dX2_isSeenBehind_0 rfl ?_
  refine zr_istore_n (pc := 1) hV [some (ZR 134), some (ZR order), some (ZI slot), some (ZI 1), none, none, none, none] dX2_isSeenBehind_1 rfl (by decide) rfl rfl ?_
  refine zr_iconst (pc := 2) hV 1 dX2_isSeenBehind_2 rfl ?_
  refine zr_istore (pc := 3) hV [some (ZR 134), some (ZR order), some (ZI slot), some (ZI 1), some (ZI 1), none, none, none] dX2_isSeenBehind_3 (by decide) rfl rfl ?_
  refine zr_iconst (pc := 5) hV 0 dX2_isSeenBehind_5 rfl ?_
  refine zr_istore (pc := 6) hV [some (ZR 134), some (ZR order), some (ZI slot), some (ZI 1), some (ZI 1), some (ZI 0), none, none] dX2_isSeenBehind_6 (by decide) rfl rfl ?_
  refine zr_iconst (pc := 8) hV 0 dX2_isSeenBehind_8 rfl ?_
  refine zr_istore (pc := 9) hV [some (ZR 134), some (ZR order), some (ZI slot), some (ZI 1), some (ZI 1), some (ZI 0), some (ZI 0), none] dX2_isSeenBehind_9 (by decide) rfl rfl ?_
  have L11 : ∀ (fuel : Nat) (x3_11 : Int) (x4_11 : Int) (x5_11 : Int) (x6_11 : Int) (σ_11 : zq_S), (0 ≤ x3_11 ∧ x3_11 ≤ 1) → (0 ≤ x4_11 ∧ x4_11 ≤ 1) → ((-1) ≤ x5_11 ∧ x5_11 ≤ 3) → (0 ≤ x6_11 ∧ x6_11 ≤ 4) → (zc_T σ_11) → (zc_Fr [(134, 5), (135, -1), (136, -1), (137, -1), (138, -1)] σ σ_11) → 4 - x6_11 < (fuel : Int) → V 11 [some (ZR 134), some (ZR order), some (ZI slot), some (ZI x3_11), some (ZI x4_11), some (ZI x5_11), some (ZI x6_11), none] [] 284 σ_11 := by
    intro fuel
    induction fuel with
    | zero =>
      intro x3_11 x4_11 x5_11 x6_11 σ_11 hx3_11 hx4_11 hx5_11 hx6_11 hσ_11 hFσ_11 hm11
      exfalso; omega
    | succ fuel ih =>
      intro x3_11 x4_11 x5_11 x6_11 σ_11 hx3_11 hx4_11 hx5_11 hx6_11 hσ_11 hFσ_11 hm11
      have ih11 := ih
      show V 11 [some (ZR 134), some (ZR order), some (ZI slot), some (ZI x3_11), some (ZI x4_11), some (ZI x5_11), some (ZI x6_11), none] [] 284 σ_11
      refine zr_iload (pc := 11) hV dX2_isSeenBehind_11 rfl ?_
      refine zr_iload_n (pc := 13) hV dX2_isSeenBehind_13 rfl rfl ?_
      refine zr_callSp (pc := 14) hV [ZI slot] (st := [ZI x6_11]) (c_X2_valuesOf (σ := σ_11) slot (by omega)) dX2_isSeenBehind_14 mX2_37 (by decide) (Nat.le_of_ble_eq_true rfl) (Nat.le_refl _) (fun r14 hr14 pr14 => ?_)
      refine zr_icmp_ge (pc := 17) hV 123 dX2_isSeenBehind_17 (by decide) (by omega) (by omega) (fun c1 => ?_) (fun c1 => ?_)
      · show V 123 [some (ZR 134), some (ZR order), some (ZI slot), some (ZI x3_11), some (ZI x4_11), some (ZI x5_11), some (ZI x6_11), none] [] 284 σ_11
        refine zr_iload_n (pc := 123) hV dX2_isSeenBehind_123 rfl rfl ?_
        refine zr_if_ne (pc := 124) hV 136 dX2_isSeenBehind_124 (by decide) (by omega) (fun c2 => ?_) (fun c2 => ?_)
        · show V 136 [some (ZR 134), some (ZR order), some (ZI slot), some (ZI x3_11), some (ZI x4_11), some (ZI x5_11), some (ZI x6_11), none] [] 284 σ_11
          refine zr_iconst (pc := 136) hV 0 dX2_isSeenBehind_136 rfl ?_
          show V 137 [some (ZR 134), some (ZR order), some (ZI slot), some (ZI x3_11), some (ZI x4_11), some (ZI x5_11), some (ZI x6_11), none] [ZI 0] 284 σ_11
          exact zr_zret (pc := 137) hV dX2_isSeenBehind_137 rfl rfl (by omega) ⟨_, rfl, ⟨by decide, by decide⟩, hσ_11, hFσ_11, (by omega)⟩
        · show V 127 [some (ZR 134), some (ZR order), some (ZI slot), some (ZI x3_11), some (ZI x4_11), some (ZI x5_11), some (ZI x6_11), none] [] 284 σ_11
          refine zr_iload (pc := 127) hV dX2_isSeenBehind_127 rfl ?_
          refine zr_if_ne (pc := 129) hV 136 dX2_isSeenBehind_129 (by decide) (by omega) (fun c3 => ?_) (fun c3 => ?_)
          · show V 136 [some (ZR 134), some (ZR order), some (ZI slot), some (ZI x3_11), some (ZI x4_11), some (ZI x5_11), some (ZI x6_11), none] [] 284 σ_11
            refine zr_iconst (pc := 136) hV 0 dX2_isSeenBehind_136 rfl ?_
            show V 137 [some (ZR 134), some (ZR order), some (ZI slot), some (ZI x3_11), some (ZI x4_11), some (ZI x5_11), some (ZI x6_11), none] [ZI 0] 284 σ_11
            exact zr_zret (pc := 137) hV dX2_isSeenBehind_137 rfl rfl (by omega) ⟨_, rfl, ⟨by decide, by decide⟩, hσ_11, hFσ_11, (by omega)⟩
          · show V 132 [some (ZR 134), some (ZR order), some (ZI slot), some (ZI x3_11), some (ZI x4_11), some (ZI x5_11), some (ZI x6_11), none] [] 284 σ_11
            refine zr_iconst (pc := 132) hV 1 dX2_isSeenBehind_132 rfl ?_
            refine zr_goto (pc := 133) hV 137 dX2_isSeenBehind_133 (by decide) ?_
            show V 137 [some (ZR 134), some (ZR order), some (ZI slot), some (ZI x3_11), some (ZI x4_11), some (ZI x5_11), some (ZI x6_11), none] [ZI 1] 284 σ_11
            exact zr_zret (pc := 137) hV dX2_isSeenBehind_137 rfl rfl (by omega) ⟨_, rfl, ⟨by decide, by decide⟩, hσ_11, hFσ_11, (by omega)⟩
      · show V 20 [some (ZR 134), some (ZR order), some (ZI slot), some (ZI x3_11), some (ZI x4_11), some (ZI x5_11), some (ZI x6_11), none] [] 284 σ_11
        refine zr_aload_n (pc := 20) hV dX2_isSeenBehind_20 rfl rfl ?_
        refine zr_getR (pc := 21) hV 1 135 dX2_isSeenBehind_21 fX2_11 rfl rfl (zc_k134 zc_s134) (zc_pos zc_s134 rfl) (zc_g134_1 hσ_11 zc_s134) (by decide) ?_
        refine zr_iload_n (pc := 24) hV dX2_isSeenBehind_24 rfl rfl ?_
        refine zr_iload (pc := 25) hV dX2_isSeenBehind_25 rfl ?_
        refine zr_iast (pc := 27) hV dX2_isSeenBehind_27 (zc_k135 zc_s135) (zc_pos zc_s135 rfl) rfl (by omega) (fun σ27 eσ27 => ?_)
        have hσ27 : zc_T σ27 := zc_ua135 eσ27 hσ_11 zc_s135 (by omega)
        have hFσ27 := zc_Fa eσ27 zc_s135 rfl hFσ_11
        refine zr_aload_n (pc := 28) hV dX2_isSeenBehind_28 rfl rfl ?_
        refine zr_getR (pc := 29) hV 2 136 dX2_isSeenBehind_29 fX2_15 rfl rfl (zc_k134 zc_s134) (zc_pos zc_s134 rfl) (zc_g134_2 hσ27 zc_s134) (by decide) ?_
        refine zr_iconst (pc := 32) hV (-1) dX2_isSeenBehind_32 rfl ?_
        refine zr_callSv (pc := 33) hV [ZR 136, ZI (-1)] (st := []) (c_fill (σ := σ27) hσ27 136 (-1) zc_s136 rfl rfl ⟨by decide, by decide⟩ (fun _ => ⟨by omega, by omega⟩)) dX2_isSeenBehind_33 mX2_28 (by decide) (Nat.le_of_ble_eq_true rfl) (Nat.le_refl _) (fun σ33 pσ33 => ?_)
        obtain ⟨hσ33, hfσ33, pσ33⟩ := pσ33
        have hFσ33 := zc_Fc hfσ33 rfl hFσ27
        refine zr_aload_n (pc := 36) hV dX2_isSeenBehind_36 rfl rfl ?_
        refine zr_aload_n (pc := 37) hV dX2_isSeenBehind_37 rfl rfl ?_
        refine zr_callVv (pc := 38) hV [ZR 134] (st := []) (c_X3_doOn_N (σ := σ33) hσ33 order korder) dX2_isSeenBehind_38 mX2_50 (zc_k4 korder) (zc_pos korder rfl) (by decide) (Nat.le_of_ble_eq_true rfl) (Nat.le_refl _) (fun σ38 pσ38 => ?_)
        obtain ⟨hσ38, hfσ38, pσ38⟩ := pσ38
        have hFσ38 := zc_Fc hfσ38 rfl hFσ33
        refine zr_aload_n (pc := 41) hV dX2_isSeenBehind_41 rfl rfl ?_
        refine zr_iload_n (pc := 42) hV dX2_isSeenBehind_42 rfl rfl ?_
        refine zr_callVi (pc := 43) hV [ZI slot] (st := []) (c_X2_inSlot (σ := σ38) hσ38 slot (by omega)) dX2_isSeenBehind_43 mX2_47 (zc_k134 zc_s134) (zc_pos zc_s134 rfl) (by decide) (Nat.le_of_ble_eq_true rfl) (Nat.le_refl _) (fun r43 σ43 hr43 pσ43 => ?_)
        obtain ⟨hσ43, hfσ43, pσ43⟩ := pσ43
        have hFσ43 := zc_Fc hfσ43 rfl hFσ38
        refine zr_istore (pc := 46) hV [some (ZR 134), some (ZR order), some (ZI slot), some (ZI x3_11), some (ZI x4_11), some (ZI x5_11), some (ZI x6_11), some (ZI r43)] dX2_isSeenBehind_46 (by decide) rfl rfl ?_
        refine zr_iload (pc := 48) hV dX2_isSeenBehind_48 rfl ?_
        have J85 : ∀ (x5_85 : Int) (σ_85 : zq_S), ((-1) ≤ x5_85 ∧ x5_85 ≤ 3) → (zc_T σ_85) → (zc_Fr [(134, 5), (135, -1), (136, -1), (137, -1), (138, -1)] σ σ_85) → V 85 [some (ZR 134), some (ZR order), some (ZI slot), some (ZI x3_11), some (ZI x4_11), some (ZI x5_85), some (ZI x6_11), some (ZI r43)] [] 284 σ_85 := by
          intro x5_85 σ_85 hx5_85 hσ_85 hFσ_85
          show V 85 [some (ZR 134), some (ZR order), some (ZI slot), some (ZI x3_11), some (ZI x4_11), some (ZI x5_85), some (ZI x6_11), some (ZI r43)] [] 284 σ_85
          refine zr_iload_n (pc := 85) hV dX2_isSeenBehind_85 rfl rfl ?_
          refine zr_iload (pc := 86) hV dX2_isSeenBehind_86 rfl ?_
          refine zr_iload (pc := 88) hV dX2_isSeenBehind_88 rfl ?_
          refine zr_icmp_ne (pc := 90) hV 97 dX2_isSeenBehind_90 (by decide) (by omega) (by omega) (fun c4 => ?_) (fun c4 => ?_)
          · show V 97 [some (ZR 134), some (ZR order), some (ZI slot), some (ZI x3_11), some (ZI x4_11), some (ZI x5_85), some (ZI x6_11), some (ZI r43)] [ZI x3_11] 284 σ_85
            refine zr_iconst (pc := 97) hV 0 dX2_isSeenBehind_97 rfl ?_
            show V 98 [some (ZR 134), some (ZR order), some (ZI slot), some (ZI x3_11), some (ZI x4_11), some (ZI x5_85), some (ZI x6_11), some (ZI r43)] [ZI 0, ZI x3_11] 284 σ_85
            refine zr_iand (pc := 98) hV dX2_isSeenBehind_98 ?_
            have t5 := zq_and_mask x3_11 0 0 1 (by decide) (by decide) (by decide)
            refine zr_istore_n (pc := 99) hV [some (ZR 134), some (ZR order), some (ZI slot), some (ZI (zq_and x3_11 0)), some (ZI x4_11), some (ZI x5_85), some (ZI x6_11), some (ZI r43)] dX2_isSeenBehind_99 rfl (by decide) rfl rfl ?_
            refine zr_iload (pc := 100) hV dX2_isSeenBehind_100 rfl ?_
            refine zr_iload (pc := 102) hV dX2_isSeenBehind_102 rfl ?_
            refine zr_iload (pc := 104) hV dX2_isSeenBehind_104 rfl ?_
            refine zr_icmp_ne (pc := 106) hV 113 dX2_isSeenBehind_106 (by decide) (by omega) (by omega) (fun c6 => ?_) (fun c6 => ?_)
            · show V 113 [some (ZR 134), some (ZR order), some (ZI slot), some (ZI (zq_and x3_11 0)), some (ZI x4_11), some (ZI x5_85), some (ZI x6_11), some (ZI r43)] [ZI x4_11] 284 σ_85
              refine zr_iconst (pc := 113) hV 0 dX2_isSeenBehind_113 rfl ?_
              show V 114 [some (ZR 134), some (ZR order), some (ZI slot), some (ZI (zq_and x3_11 0)), some (ZI x4_11), some (ZI x5_85), some (ZI x6_11), some (ZI r43)] [ZI 0, ZI x4_11] 284 σ_85
              refine zr_iand (pc := 114) hV dX2_isSeenBehind_114 ?_
              have t7 := zq_and_mask x4_11 0 0 1 (by decide) (by decide) (by decide)
              refine zr_istore (pc := 115) hV [some (ZR 134), some (ZR order), some (ZI slot), some (ZI (zq_and x3_11 0)), some (ZI (zq_and x4_11 0)), some (ZI x5_85), some (ZI x6_11), some (ZI r43)] dX2_isSeenBehind_115 (by decide) rfl rfl ?_
              refine zr_iinc (pc := 117) hV [some (ZR 134), some (ZR order), some (ZI slot), some (ZI (zq_and x3_11 0)), some (ZI (zq_and x4_11 0)), some (ZI x5_85), some (ZI (x6_11 + 1)), some (ZI r43)] (x6_11 + 1) dX2_isSeenBehind_117 rfl rfl (by decide) rfl rfl ?_
              refine zr_goto (pc := 120) hV 11 dX2_isSeenBehind_120 (by decide) ?_
              refine zr_sub (pc := 11) hV [some (ZR 134), some (ZR order), some (ZI slot), some (ZI (zq_and x3_11 0)), some (ZI (zq_and x4_11 0)), some (ZI x5_85), some (ZI (x6_11 + 1)), none] (⟨rfl, rfl, rfl, rfl, rfl, rfl, rfl, trivial⟩) ?_
              exact ih11 (zq_and x3_11 0) (zq_and x4_11 0) x5_85 (x6_11 + 1) σ_85 (by omega) (by omega) (by omega) (by omega) hσ_85 hFσ_85 (by omega)
            · show V 109 [some (ZR 134), some (ZR order), some (ZI slot), some (ZI (zq_and x3_11 0)), some (ZI x4_11), some (ZI x5_85), some (ZI x6_11), some (ZI r43)] [ZI x4_11] 284 σ_85
              refine zr_iconst (pc := 109) hV 1 dX2_isSeenBehind_109 rfl ?_
              refine zr_goto (pc := 110) hV 114 dX2_isSeenBehind_110 (by decide) ?_
              show V 114 [some (ZR 134), some (ZR order), some (ZI slot), some (ZI (zq_and x3_11 0)), some (ZI x4_11), some (ZI x5_85), some (ZI x6_11), some (ZI r43)] [ZI 1, ZI x4_11] 284 σ_85
              refine zr_iand (pc := 114) hV dX2_isSeenBehind_114 ?_
              have t8 := zq_and_mask x4_11 1 1 2 (by decide) (by decide) (by decide)
              refine zr_istore (pc := 115) hV [some (ZR 134), some (ZR order), some (ZI slot), some (ZI (zq_and x3_11 0)), some (ZI (zq_and x4_11 1)), some (ZI x5_85), some (ZI x6_11), some (ZI r43)] dX2_isSeenBehind_115 (by decide) rfl rfl ?_
              refine zr_iinc (pc := 117) hV [some (ZR 134), some (ZR order), some (ZI slot), some (ZI (zq_and x3_11 0)), some (ZI (zq_and x4_11 1)), some (ZI x5_85), some (ZI (x6_11 + 1)), some (ZI r43)] (x6_11 + 1) dX2_isSeenBehind_117 rfl rfl (by decide) rfl rfl ?_
              refine zr_goto (pc := 120) hV 11 dX2_isSeenBehind_120 (by decide) ?_
              refine zr_sub (pc := 11) hV [some (ZR 134), some (ZR order), some (ZI slot), some (ZI (zq_and x3_11 0)), some (ZI (zq_and x4_11 1)), some (ZI x5_85), some (ZI (x6_11 + 1)), none] (⟨rfl, rfl, rfl, rfl, rfl, rfl, rfl, trivial⟩) ?_
              exact ih11 (zq_and x3_11 0) (zq_and x4_11 1) x5_85 (x6_11 + 1) σ_85 (by omega) (by omega) (by omega) (by omega) hσ_85 hFσ_85 (by omega)
          · show V 93 [some (ZR 134), some (ZR order), some (ZI slot), some (ZI x3_11), some (ZI x4_11), some (ZI x5_85), some (ZI x6_11), some (ZI r43)] [ZI x3_11] 284 σ_85
            refine zr_iconst (pc := 93) hV 1 dX2_isSeenBehind_93 rfl ?_
            refine zr_goto (pc := 94) hV 98 dX2_isSeenBehind_94 (by decide) ?_
            show V 98 [some (ZR 134), some (ZR order), some (ZI slot), some (ZI x3_11), some (ZI x4_11), some (ZI x5_85), some (ZI x6_11), some (ZI r43)] [ZI 1, ZI x3_11] 284 σ_85
            refine zr_iand (pc := 98) hV dX2_isSeenBehind_98 ?_
            have t9 := zq_and_mask x3_11 1 1 2 (by decide) (by decide) (by decide)
            refine zr_istore_n (pc := 99) hV [some (ZR 134), some (ZR order), some (ZI slot), some (ZI (zq_and x3_11 1)), some (ZI x4_11), some (ZI x5_85), some (ZI x6_11), some (ZI r43)] dX2_isSeenBehind_99 rfl (by decide) rfl rfl ?_
            refine zr_iload (pc := 100) hV dX2_isSeenBehind_100 rfl ?_
            refine zr_iload (pc := 102) hV dX2_isSeenBehind_102 rfl ?_
            refine zr_iload (pc := 104) hV dX2_isSeenBehind_104 rfl ?_
            refine zr_icmp_ne (pc := 106) hV 113 dX2_isSeenBehind_106 (by decide) (by omega) (by omega) (fun c10 => ?_) (fun c10 => ?_)
            · show V 113 [some (ZR 134), some (ZR order), some (ZI slot), some (ZI (zq_and x3_11 1)), some (ZI x4_11), some (ZI x5_85), some (ZI x6_11), some (ZI r43)] [ZI x4_11] 284 σ_85
              refine zr_iconst (pc := 113) hV 0 dX2_isSeenBehind_113 rfl ?_
              show V 114 [some (ZR 134), some (ZR order), some (ZI slot), some (ZI (zq_and x3_11 1)), some (ZI x4_11), some (ZI x5_85), some (ZI x6_11), some (ZI r43)] [ZI 0, ZI x4_11] 284 σ_85
              refine zr_iand (pc := 114) hV dX2_isSeenBehind_114 ?_
              have t11 := zq_and_mask x4_11 0 0 1 (by decide) (by decide) (by decide)
              refine zr_istore (pc := 115) hV [some (ZR 134), some (ZR order), some (ZI slot), some (ZI (zq_and x3_11 1)), some (ZI (zq_and x4_11 0)), some (ZI x5_85), some (ZI x6_11), some (ZI r43)] dX2_isSeenBehind_115 (by decide) rfl rfl ?_
              refine zr_iinc (pc := 117) hV [some (ZR 134), some (ZR order), some (ZI slot), some (ZI (zq_and x3_11 1)), some (ZI (zq_and x4_11 0)), some (ZI x5_85), some (ZI (x6_11 + 1)), some (ZI r43)] (x6_11 + 1) dX2_isSeenBehind_117 rfl rfl (by decide) rfl rfl ?_
              refine zr_goto (pc := 120) hV 11 dX2_isSeenBehind_120 (by decide) ?_
              refine zr_sub (pc := 11) hV [some (ZR 134), some (ZR order), some (ZI slot), some (ZI (zq_and x3_11 1)), some (ZI (zq_and x4_11 0)), some (ZI x5_85), some (ZI (x6_11 + 1)), none] (⟨rfl, rfl, rfl, rfl, rfl, rfl, rfl, trivial⟩) ?_
              exact ih11 (zq_and x3_11 1) (zq_and x4_11 0) x5_85 (x6_11 + 1) σ_85 (by omega) (by omega) (by omega) (by omega) hσ_85 hFσ_85 (by omega)
            · show V 109 [some (ZR 134), some (ZR order), some (ZI slot), some (ZI (zq_and x3_11 1)), some (ZI x4_11), some (ZI x5_85), some (ZI x6_11), some (ZI r43)] [ZI x4_11] 284 σ_85
              refine zr_iconst (pc := 109) hV 1 dX2_isSeenBehind_109 rfl ?_
              refine zr_goto (pc := 110) hV 114 dX2_isSeenBehind_110 (by decide) ?_
              show V 114 [some (ZR 134), some (ZR order), some (ZI slot), some (ZI (zq_and x3_11 1)), some (ZI x4_11), some (ZI x5_85), some (ZI x6_11), some (ZI r43)] [ZI 1, ZI x4_11] 284 σ_85
              refine zr_iand (pc := 114) hV dX2_isSeenBehind_114 ?_
              have t12 := zq_and_mask x4_11 1 1 2 (by decide) (by decide) (by decide)
              refine zr_istore (pc := 115) hV [some (ZR 134), some (ZR order), some (ZI slot), some (ZI (zq_and x3_11 1)), some (ZI (zq_and x4_11 1)), some (ZI x5_85), some (ZI x6_11), some (ZI r43)] dX2_isSeenBehind_115 (by decide) rfl rfl ?_
              refine zr_iinc (pc := 117) hV [some (ZR 134), some (ZR order), some (ZI slot), some (ZI (zq_and x3_11 1)), some (ZI (zq_and x4_11 1)), some (ZI x5_85), some (ZI (x6_11 + 1)), some (ZI r43)] (x6_11 + 1) dX2_isSeenBehind_117 rfl rfl (by decide) rfl rfl ?_
              refine zr_goto (pc := 120) hV 11 dX2_isSeenBehind_120 (by decide) ?_
              refine zr_sub (pc := 11) hV [some (ZR 134), some (ZR order), some (ZI slot), some (ZI (zq_and x3_11 1)), some (ZI (zq_and x4_11 1)), some (ZI x5_85), some (ZI (x6_11 + 1)), none] (⟨rfl, rfl, rfl, rfl, rfl, rfl, rfl, trivial⟩) ?_
              exact ih11 (zq_and x3_11 1) (zq_and x4_11 1) x5_85 (x6_11 + 1) σ_85 (by omega) (by omega) (by omega) (by omega) hσ_85 hFσ_85 (by omega)
        refine zr_if_ne (pc := 50) hV 75 dX2_isSeenBehind_50 (by decide) (by omega) (fun c13 => ?_) (fun c13 => ?_)
        · show V 75 [some (ZR 134), some (ZR order), some (ZI slot), some (ZI x3_11), some (ZI x4_11), some (ZI x5_11), some (ZI x6_11), some (ZI r43)] [] 284 σ43
          refine zr_aload_n (pc := 75) hV dX2_isSeenBehind_75 rfl rfl ?_
          refine zr_iload_n (pc := 76) hV dX2_isSeenBehind_76 rfl rfl ?_
          refine zr_callVi (pc := 77) hV [ZI slot] (st := []) (c_X2_isUnlike (σ := σ43) hσ43 slot (by omega)) dX2_isSeenBehind_77 mX2_86 (zc_k134 zc_s134) (zc_pos zc_s134 rfl) (by decide) (Nat.le_of_ble_eq_true rfl) (Nat.le_refl _) (fun r77 σ77 hr77 pσ77 => ?_)
          obtain ⟨hσ77, hfσ77, pσ77⟩ := pσ77
          have hFσ77 := zc_Fc hfσ77 rfl hFσ43
          refine zr_if_eq (pc := 80) hV 85 dX2_isSeenBehind_80 (by decide) (by omega) (fun c14 => ?_) (fun c14 => ?_)
          · exact J85 x5_11 σ77 (by omega) hσ77 hFσ77
          · show V 83 [some (ZR 134), some (ZR order), some (ZI slot), some (ZI x3_11), some (ZI x4_11), some (ZI x5_11), some (ZI x6_11), some (ZI r43)] [] 284 σ77
            refine zr_iconst (pc := 83) hV 1 dX2_isSeenBehind_83 rfl ?_
            exact zr_zret (pc := 84) hV dX2_isSeenBehind_84 rfl rfl (by omega) ⟨_, rfl, ⟨by decide, by decide⟩, hσ77, hFσ77, (by omega)⟩
        · show V 53 [some (ZR 134), some (ZR order), some (ZI slot), some (ZI x3_11), some (ZI x4_11), some (ZI x5_11), some (ZI x6_11), some (ZI r43)] [] 284 σ43
          refine zr_iload (pc := 53) hV dX2_isSeenBehind_53 rfl ?_
          refine zr_istore (pc := 55) hV [some (ZR 134), some (ZR order), some (ZI slot), some (ZI x3_11), some (ZI x4_11), some (ZI r43), some (ZI x6_11), some (ZI r43)] dX2_isSeenBehind_55 (by decide) rfl rfl ?_
          refine zr_aload_n (pc := 57) hV dX2_isSeenBehind_57 rfl rfl ?_
          refine zr_getR (pc := 58) hV 2 136 dX2_isSeenBehind_58 fX2_15 rfl rfl (zc_k134 zc_s134) (zc_pos zc_s134 rfl) (zc_g134_2 hσ43 zc_s134) (by decide) ?_
          refine zr_iconst (pc := 61) hV 0 dX2_isSeenBehind_61 rfl ?_
          refine zr_aload_n (pc := 62) hV dX2_isSeenBehind_62 rfl rfl ?_
          refine zr_getR (pc := 63) hV 3 137 dX2_isSeenBehind_63 fX2_18 rfl rfl (zc_k134 zc_s134) (zc_pos zc_s134 rfl) (zc_g134_3 hσ43 zc_s134) (by decide) ?_
          refine zr_iconst (pc := 66) hV 0 dX2_isSeenBehind_66 rfl ?_
          refine zr_bipush (pc := 67) hV 9 dX2_isSeenBehind_67 (by decide) ?_
          refine zr_copy (pc := 69) hV dX2_isSeenBehind_69 lX2_80 lcp_nat lcp_stat lcp_ini (zc_k136 zc_s136) (zc_k137 zc_s137) (zc_pos zc_s136 rfl) (zc_pos zc_s137 rfl) rfl rfl (by omega) (by omega) (by omega) rfl rfl (fun σ69 eσ69 => ?_)
          have hσ69 : zc_T σ69 := zc_Tcell eσ69 hσ43 zc_s137 (fun i => by split; exact zc_ga136 hσ43 zc_s136 _; exact zc_ga137 hσ43 zc_s137 _)
          have hFσ69 := zc_Fcell eσ69 zc_s137 rfl hFσ43
          refine zr_goto (pc := 72) hV 85 dX2_isSeenBehind_72 (by decide) ?_
          exact J85 r43 σ69 (by omega) hσ69 hFσ69
  exact L11 (4 - (0 : Int) + 1 : Int).toNat 1 1 0 0 σ (by omega) (by omega) (by omega) (by omega) hσ hFσ (by omega)
set_option maxHeartbeats 800000 in
theorem c_X2_readsSlot {σ : zq_S} (hσ : zc_T σ) (order : Int) (korder : zc_kd order = 4) (slot : Int) (q0 : 0 ≤ slot ∧ slot ≤ 8) : zq_C zc_w yX2_readsSlot cX2_readsSlot 4 (some .boolean) 5 115 284 284 [ZR 134, ZR order, ZI slot] σ (zq_pi (fun r τ => zc_T τ ∧ zc_Fr [(134, 5), (135, -1), (136, -1), (137, -1), (138, -1)] σ τ ∧ ((0 ≤ r ∧ r ≤ 1)))) := by
  refine zq_C_of (by decide) (Nat.le_refl _) (Nat.le_of_ble_eq_true rfl) [some (ZR 134), some (ZR order), some (ZI slot), none] rfl (fun V hV => ?_)
  have poorder := zc_pos korder rfl
  have hFσ := zc_Fr_rf [(134, 5), (135, -1), (136, -1), (137, -1), (138, -1)] σ
  show V 0 [some (ZR 134), some (ZR order), some (ZI slot), none] [] 284 σ
  refine zr_aload_n (pc := 0) hV dX2_readsSlot_0 rfl rfl ?_
  refine zr_callVv (pc := 1) hV [] (st := []) (c_X2_startOver (σ := σ) hσ) dX2_readsSlot_1 mX2_69 (zc_k134 zc_s134) (zc_pos zc_s134 rfl) (by decide) (Nat.le_of_ble_eq_true rfl) (Nat.le_refl _) (fun σ1 pσ1 => ?_)
  obtain ⟨hσ1, hfσ1, pσ1⟩ := pσ1
  have hFσ1 := zc_Fc hfσ1 rfl hFσ
  refine zr_iconst (pc := 4) hV 0 dX2_readsSlot_4 rfl ?_
  refine zr_istore_n (pc := 5) hV [some (ZR 134), some (ZR order), some (ZI slot), some (ZI 0)] dX2_readsSlot_5 rfl (by decide) rfl rfl ?_
  have L6 : ∀ (fuel : Nat) (x3_6 : Int) (σ_6 : zq_S), (0 ≤ x3_6 ∧ x3_6 ≤ 1000000) → (zc_T σ_6) → (zc_Fr [(134, 5), (135, -1), (136, -1), (137, -1), (138, -1)] σ σ_6) → 1000000 - x3_6 < (fuel : Int) → V 6 [some (ZR 134), some (ZR order), some (ZI slot), some (ZI x3_6)] [] 284 σ_6 := by
    intro fuel
    induction fuel with
    | zero =>
      intro x3_6 σ_6 hx3_6 hσ_6 hFσ_6 hm6
      exfalso; omega
    | succ fuel ih =>
      intro x3_6 σ_6 hx3_6 hσ_6 hFσ_6 hm6
      have ih6 := ih
      show V 6 [some (ZR 134), some (ZR order), some (ZI slot), some (ZI x3_6)] [] 284 σ_6
      refine zr_iload_n (pc := 6) hV dX2_readsSlot_6 rfl rfl ?_
      refine zr_ldc (pc := 7) (v := 1000000) hV 1000000 dX2_readsSlot_7 kX2_72 (by decide) ?_
      refine zr_icmp_ge (pc := 9) hV 38 dX2_readsSlot_9 (by decide) (by omega) ⟨by decide, by decide⟩ (fun c1 => ?_) (fun c1 => ?_)
      · show V 38 [some (ZR 134), some (ZR order), some (ZI slot), some (ZI x3_6)] [] 284 σ_6
        refine zr_iconst (pc := 38) hV 0 dX2_readsSlot_38 rfl ?_
        exact zr_zret (pc := 39) hV dX2_readsSlot_39 rfl rfl (by omega) ⟨_, rfl, ⟨by decide, by decide⟩, hσ_6, hFσ_6, (by omega)⟩
      · show V 12 [some (ZR 134), some (ZR order), some (ZI slot), some (ZI x3_6)] [] 284 σ_6
        refine zr_aload_n (pc := 12) hV dX2_readsSlot_12 rfl rfl ?_
        refine zr_aload_n (pc := 13) hV dX2_readsSlot_13 rfl rfl ?_
        refine zr_iload_n (pc := 14) hV dX2_readsSlot_14 rfl rfl ?_
        refine zr_callVi (pc := 15) hV [ZR order, ZI slot] (st := []) (c_X2_isSeenBehind (σ := σ_6) hσ_6 order korder slot (by omega)) dX2_readsSlot_15 mX2_73 (zc_k134 zc_s134) (zc_pos zc_s134 rfl) (by decide) (Nat.le_of_ble_eq_true rfl) (Nat.le_refl _) (fun r15 σ15 hr15 pσ15 => ?_)
        obtain ⟨hσ15, hfσ15, pσ15⟩ := pσ15
        have hFσ15 := zc_Fc hfσ15 rfl hFσ_6
        refine zr_if_eq (pc := 18) hV 23 dX2_readsSlot_18 (by decide) (by omega) (fun c2 => ?_) (fun c2 => ?_)
        · show V 23 [some (ZR 134), some (ZR order), some (ZI slot), some (ZI x3_6)] [] 284 σ15
          refine zr_aload_n (pc := 23) hV dX2_readsSlot_23 rfl rfl ?_
          refine zr_callVi (pc := 24) hV [] (st := []) (c_X2_goToNext (σ := σ15) hσ15) dX2_readsSlot_24 mX2_76 (zc_k134 zc_s134) (zc_pos zc_s134 rfl) (by decide) (Nat.le_of_ble_eq_true rfl) (Nat.le_refl _) (fun r24 σ24 hr24 pσ24 => ?_)
          obtain ⟨hσ24, hfσ24, pσ24⟩ := pσ24
          have hFσ24 := zc_Fc hfσ24 rfl hFσ15
          refine zr_if_ne (pc := 27) hV 32 dX2_readsSlot_27 (by decide) (by omega) (fun c3 => ?_) (fun c3 => ?_)
          · show V 32 [some (ZR 134), some (ZR order), some (ZI slot), some (ZI x3_6)] [] 284 σ24
            refine zr_iinc (pc := 32) hV [some (ZR 134), some (ZR order), some (ZI slot), some (ZI (x3_6 + 1))] (x3_6 + 1) dX2_readsSlot_32 rfl rfl (by decide) rfl rfl ?_
            refine zr_goto (pc := 35) hV 6 dX2_readsSlot_35 (by decide) ?_
            exact ih6 (x3_6 + 1) σ24 (by omega) hσ24 hFσ24 (by omega)
          · show V 30 [some (ZR 134), some (ZR order), some (ZI slot), some (ZI x3_6)] [] 284 σ24
            refine zr_iconst (pc := 30) hV 0 dX2_readsSlot_30 rfl ?_
            exact zr_zret (pc := 31) hV dX2_readsSlot_31 rfl rfl (by omega) ⟨_, rfl, ⟨by decide, by decide⟩, hσ24, hFσ24, (by omega)⟩
        · show V 21 [some (ZR 134), some (ZR order), some (ZI slot), some (ZI x3_6)] [] 284 σ15
          refine zr_iconst (pc := 21) hV 1 dX2_readsSlot_21 rfl ?_
          exact zr_zret (pc := 22) hV dX2_readsSlot_22 rfl rfl (by omega) ⟨_, rfl, ⟨by decide, by decide⟩, hσ15, hFσ15, (by omega)⟩
  exact L6 (1000000 - (0 : Int) + 1 : Int).toNat 0 σ1 (by omega) hσ1 hFσ1 (by omega)
set_option maxHeartbeats 800000 in
theorem c_X2_whatReads {σ : zq_S} (hσ : zc_T σ) (order : Int) (korder : zc_kd order = 4)  : zq_C zc_w yX2_whatReads cX2_whatReads 5 (some .int) 6 138 284 284 [ZR 134, ZR order] σ (zq_pi (fun r τ => zc_T τ ∧ zc_Fr [(4, 15), (134, 5), (135, -1), (136, -1), (137, -1), (138, -1)] σ τ ∧ (True))) := by
  refine zq_C_of (by decide) (Nat.le_refl _) (Nat.le_of_ble_eq_true rfl) [some (ZR 134), some (ZR order), none, none, none] rfl (fun V hV => ?_)
  have poorder := zc_pos korder rfl
  have hFσ := zc_Fr_rf [(4, 15), (134, 5), (135, -1), (136, -1), (137, -1), (138, -1)] σ
  show V 0 [some (ZR 134), some (ZR order), none, none, none] [] 284 σ
  refine zr_aload_n (pc := 0) hV dX2_whatReads_0 rfl rfl ?_
  refine zr_getI (pc := 1) hV 15 dX2_whatReads_1 fX2_56 rfl rfl (zc_k4 korder) (zc_pos korder rfl) ?_
  have t1 := zc_g4_15 hσ korder
  refine zr_iconst (pc := 4) hV (-1) dX2_whatReads_4 rfl ?_
  refine zr_icmp_ne (pc := 5) hV 66 dX2_whatReads_5 (by decide) (by omega) ⟨by decide, by decide⟩ (fun c2 => ?_) (fun c2 => ?_)
  · show V 66 [some (ZR 134), some (ZR order), none, none, none] [] 284 σ
    refine zr_aload_n (pc := 66) hV dX2_whatReads_66 rfl rfl ?_
    refine zr_getI (pc := 67) hV 15 dX2_whatReads_67 fX2_56 rfl rfl (zc_k4 korder) (zc_pos korder rfl) ?_
    have t3 := zc_g4_15 hσ korder
    exact zr_iret (pc := 70) hV dX2_whatReads_70 rfl rfl ⟨_, rfl, (by omega), hσ, hFσ, trivial⟩
  · show V 8 [some (ZR 134), some (ZR order), none, none, none] [] 284 σ
    refine zr_iconst (pc := 8) hV 0 dX2_whatReads_8 rfl ?_
    refine zr_istore_n (pc := 9) hV [some (ZR 134), some (ZR order), some (ZI 0), none, none] dX2_whatReads_9 rfl (by decide) rfl rfl ?_
    refine zr_iconst (pc := 10) hV 0 dX2_whatReads_10 rfl ?_
    refine zr_istore_n (pc := 11) hV [some (ZR 134), some (ZR order), some (ZI 0), some (ZI 0), none] dX2_whatReads_11 rfl (by decide) rfl rfl ?_
    have L12 : ∀ (fuel : Nat) (x2_12 : Int) (x3_12 : Int) (σ_12 : zq_S), ((-2147483648) ≤ x2_12 ∧ x2_12 ≤ 2147483647) → (0 ≤ x3_12 ∧ x3_12 ≤ 9) → (zc_T σ_12) → (zc_Fr [(4, 15), (134, 5), (135, -1), (136, -1), (137, -1), (138, -1)] σ σ_12) → 9 - x3_12 < (fuel : Int) → V 12 [some (ZR 134), some (ZR order), some (ZI x2_12), some (ZI x3_12), none] [] 284 σ_12 := by
      intro fuel
      induction fuel with
      | zero =>
        intro x2_12 x3_12 σ_12 hx2_12 hx3_12 hσ_12 hFσ_12 hm12
        exfalso; omega
      | succ fuel ih =>
        intro x2_12 x3_12 σ_12 hx2_12 hx3_12 hσ_12 hFσ_12 hm12
        have ih12 := ih
        show V 12 [some (ZR 134), some (ZR order), some (ZI x2_12), some (ZI x3_12), none] [] 284 σ_12
        refine zr_iload_n (pc := 12) hV dX2_whatReads_12 rfl rfl ?_
        refine zr_bipush (pc := 13) hV 9 dX2_whatReads_13 (by decide) ?_
        refine zr_icmp_ge (pc := 15) hV 61 dX2_whatReads_15 (by decide) (by omega) ⟨by decide, by decide⟩ (fun c4 => ?_) (fun c4 => ?_)
        · show V 61 [some (ZR 134), some (ZR order), some (ZI x2_12), some (ZI x3_12), none] [] 284 σ_12
          refine zr_aload_n (pc := 61) hV dX2_whatReads_61 rfl rfl ?_
          refine zr_iload_n (pc := 62) hV dX2_whatReads_62 rfl rfl ?_
          refine zr_putI (pc := 63) hV 15 dX2_whatReads_63 fX2_56 rfl rfl rfl (zc_k4 korder) (zc_pos korder rfl) (fun σ63 eσ63 => ?_)
          have hσ63 : zc_T σ63 := zc_u4_15 eσ63 hσ_12 korder (by omega)
          have hFσ63 := zc_Fw eσ63 korder rfl hFσ_12
          show V 66 [some (ZR 134), some (ZR order), some (ZI x2_12), some (ZI x3_12), none] [] 284 σ63
          refine zr_aload_n (pc := 66) hV dX2_whatReads_66 rfl rfl ?_
          refine zr_getI (pc := 67) hV 15 dX2_whatReads_67 fX2_56 rfl rfl (zc_k4 korder) (zc_pos korder rfl) ?_
          have t5 := zc_g4_15 hσ63 korder
          have t6 : σ63 order 15 = x2_12 := by rw [eσ63]; exact zq_up_same _ _ _ _
          exact zr_iret (pc := 70) hV dX2_whatReads_70 rfl rfl ⟨_, rfl, (by omega), hσ63, hFσ63, trivial⟩
        · show V 18 [some (ZR 134), some (ZR order), some (ZI x2_12), some (ZI x3_12), none] [] 284 σ_12
          refine zr_iload_n (pc := 18) hV dX2_whatReads_18 rfl rfl ?_
          refine zr_callSp (pc := 19) hV [ZI x3_12] (st := []) (c_X2_bitOf (σ := σ_12) x3_12 (by omega)) dX2_whatReads_19 mX2_59 (by decide) (Nat.le_of_ble_eq_true rfl) (Nat.le_refl _) (fun r19 hr19 pr19 => ?_)
          refine zr_istore (pc := 22) hV [some (ZR 134), some (ZR order), some (ZI x2_12), some (ZI x3_12), some (ZI r19)] dX2_whatReads_22 (by decide) rfl rfl ?_
          refine zr_aload_n (pc := 24) hV dX2_whatReads_24 rfl rfl ?_
          refine zr_getI (pc := 25) hV 12 dX2_whatReads_25 fX2_62 rfl rfl (zc_k4 korder) (zc_pos korder rfl) ?_
          have t7 := zc_g4_12 hσ_12 korder
          have t8 : σ_12 order 12 = σ order 12 := hFσ_12 _ _ (zc_out_at korder rfl)
          refine zr_iload (pc := 28) hV dX2_whatReads_28 rfl ?_
          refine zr_iand (pc := 30) hV dX2_whatReads_30 ?_
          have t9 := zq_and_in (σ_12 order 12) r19
          refine zr_if_eq (pc := 31) hV 55 dX2_whatReads_31 (by decide) (by omega) (fun c10 => ?_) (fun c10 => ?_)
          · show V 55 [some (ZR 134), some (ZR order), some (ZI x2_12), some (ZI x3_12), some (ZI r19)] [] 284 σ_12
            refine zr_iinc (pc := 55) hV [some (ZR 134), some (ZR order), some (ZI x2_12), some (ZI (x3_12 + 1)), some (ZI r19)] (x3_12 + 1) dX2_whatReads_55 rfl rfl (by decide) rfl rfl ?_
            refine zr_goto (pc := 58) hV 12 dX2_whatReads_58 (by decide) ?_
            refine zr_sub (pc := 12) hV [some (ZR 134), some (ZR order), some (ZI x2_12), some (ZI (x3_12 + 1)), none] (⟨rfl, rfl, rfl, rfl, trivial⟩) ?_
            exact ih12 x2_12 (x3_12 + 1) σ_12 (by omega) (by omega) hσ_12 hFσ_12 (by omega)
          · show V 34 [some (ZR 134), some (ZR order), some (ZI x2_12), some (ZI x3_12), some (ZI r19)] [] 284 σ_12
            refine zr_iload_n (pc := 34) hV dX2_whatReads_34 rfl rfl ?_
            refine zr_iload (pc := 35) hV dX2_whatReads_35 rfl ?_
            refine zr_iand (pc := 37) hV dX2_whatReads_37 ?_
            have t11 := zq_and_in x2_12 r19
            refine zr_if_ne (pc := 38) hV 55 dX2_whatReads_38 (by decide) (by omega) (fun c12 => ?_) (fun c12 => ?_)
            · show V 55 [some (ZR 134), some (ZR order), some (ZI x2_12), some (ZI x3_12), some (ZI r19)] [] 284 σ_12
              refine zr_iinc (pc := 55) hV [some (ZR 134), some (ZR order), some (ZI x2_12), some (ZI (x3_12 + 1)), some (ZI r19)] (x3_12 + 1) dX2_whatReads_55 rfl rfl (by decide) rfl rfl ?_
              refine zr_goto (pc := 58) hV 12 dX2_whatReads_58 (by decide) ?_
              refine zr_sub (pc := 12) hV [some (ZR 134), some (ZR order), some (ZI x2_12), some (ZI (x3_12 + 1)), none] (⟨rfl, rfl, rfl, rfl, trivial⟩) ?_
              exact ih12 x2_12 (x3_12 + 1) σ_12 (by omega) (by omega) hσ_12 hFσ_12 (by omega)
            · show V 41 [some (ZR 134), some (ZR order), some (ZI x2_12), some (ZI x3_12), some (ZI r19)] [] 284 σ_12
              refine zr_aload_n (pc := 41) hV dX2_whatReads_41 rfl rfl ?_
              refine zr_aload_n (pc := 42) hV dX2_whatReads_42 rfl rfl ?_
              refine zr_iload_n (pc := 43) hV dX2_whatReads_43 rfl rfl ?_
              refine zr_callVi (pc := 44) hV [ZR order, ZI x3_12] (st := []) (c_X2_readsSlot (σ := σ_12) hσ_12 order korder x3_12 (by omega)) dX2_whatReads_44 mX2_65 (zc_k134 zc_s134) (zc_pos zc_s134 rfl) (by decide) (Nat.le_of_ble_eq_true rfl) (Nat.le_refl _) (fun r44 σ44 hr44 pσ44 => ?_)
              obtain ⟨hσ44, hfσ44, pσ44⟩ := pσ44
              have hFσ44 := zc_Fc hfσ44 rfl hFσ_12
              refine zr_if_eq (pc := 47) hV 55 dX2_whatReads_47 (by decide) (by omega) (fun c13 => ?_) (fun c13 => ?_)
              · show V 55 [some (ZR 134), some (ZR order), some (ZI x2_12), some (ZI x3_12), some (ZI r19)] [] 284 σ44
                refine zr_iinc (pc := 55) hV [some (ZR 134), some (ZR order), some (ZI x2_12), some (ZI (x3_12 + 1)), some (ZI r19)] (x3_12 + 1) dX2_whatReads_55 rfl rfl (by decide) rfl rfl ?_
                refine zr_goto (pc := 58) hV 12 dX2_whatReads_58 (by decide) ?_
                refine zr_sub (pc := 12) hV [some (ZR 134), some (ZR order), some (ZI x2_12), some (ZI (x3_12 + 1)), none] (⟨rfl, rfl, rfl, rfl, trivial⟩) ?_
                exact ih12 x2_12 (x3_12 + 1) σ44 (by omega) (by omega) hσ44 hFσ44 (by omega)
              · show V 50 [some (ZR 134), some (ZR order), some (ZI x2_12), some (ZI x3_12), some (ZI r19)] [] 284 σ44
                refine zr_iload_n (pc := 50) hV dX2_whatReads_50 rfl rfl ?_
                refine zr_iload (pc := 51) hV dX2_whatReads_51 rfl ?_
                refine zr_ior (pc := 53) hV dX2_whatReads_53 ?_
                have t14 := zq_or_in x2_12 r19
                refine zr_istore_n (pc := 54) hV [some (ZR 134), some (ZR order), some (ZI (zq_or x2_12 r19)), some (ZI x3_12), some (ZI r19)] dX2_whatReads_54 rfl (by decide) rfl rfl ?_
                show V 55 [some (ZR 134), some (ZR order), some (ZI (zq_or x2_12 r19)), some (ZI x3_12), some (ZI r19)] [] 284 σ44
                refine zr_iinc (pc := 55) hV [some (ZR 134), some (ZR order), some (ZI (zq_or x2_12 r19)), some (ZI (x3_12 + 1)), some (ZI r19)] (x3_12 + 1) dX2_whatReads_55 rfl rfl (by decide) rfl rfl ?_
                refine zr_goto (pc := 58) hV 12 dX2_whatReads_58 (by decide) ?_
                refine zr_sub (pc := 12) hV [some (ZR 134), some (ZR order), some (ZI (zq_or x2_12 r19)), some (ZI (x3_12 + 1)), none] (⟨rfl, rfl, rfl, rfl, trivial⟩) ?_
                exact ih12 (zq_or x2_12 r19) (x3_12 + 1) σ44 (by omega) (by omega) hσ44 hFσ44 (by omega)
    exact L12 (9 - (0 : Int) + 1 : Int).toNat 0 0 σ (by omega) (by omega) hσ hFσ (by omega)
set_option maxHeartbeats 800000 in
theorem c_X2_changedBy {σ : zq_S} (hσ : zc_T σ) (order : Int) (korder : zc_kd order = 4)  : zq_C zc_w yX2_changedBy cX2_changedBy 4 (some .int) 5 109 284 284 [ZR 134, ZR order] σ (zq_pi (fun r τ => zc_T τ ∧ zc_Fr [(134, 5), (135, -1), (136, -1), (138, -1)] σ τ ∧ (True))) := by
  refine zq_C_of (by decide) (Nat.le_refl _) (Nat.le_of_ble_eq_true rfl) [some (ZR 134), some (ZR order), none, none] rfl (fun V hV => ?_)
  have poorder := zc_pos korder rfl
  have hFσ := zc_Fr_rf [(134, 5), (135, -1), (136, -1), (138, -1)] σ
  show V 0 [some (ZR 134), some (ZR order), none, none] [] 284 σ
  refine zr_iconst (pc := 0) hV 0 dX2_changedBy_0 rfl ?_
  refine zr_istore_n (pc := 1) hV [some (ZR 134), some (ZR order), some (ZI 0), none] dX2_changedBy_1 rfl (by decide) rfl rfl ?_
  refine zr_aload_n (pc := 2) hV dX2_changedBy_2 rfl rfl ?_
  refine zr_aload_n (pc := 3) hV dX2_changedBy_3 rfl rfl ?_
  refine zr_callVv (pc := 4) hV [ZR order] (st := []) (c_X2_doAfresh (σ := σ) hσ order korder) dX2_changedBy_4 mX2_100 (zc_k134 zc_s134) (zc_pos zc_s134 rfl) (by decide) (Nat.le_of_ble_eq_true rfl) (Nat.le_refl _) (fun σ4 pσ4 => ?_)
  obtain ⟨hσ4, hfσ4, pσ4⟩ := pσ4
  have hFσ4 := zc_Fc hfσ4 rfl hFσ
  refine zr_iconst (pc := 7) hV 0 dX2_changedBy_7 rfl ?_
  refine zr_istore_n (pc := 8) hV [some (ZR 134), some (ZR order), some (ZI 0), some (ZI 0)] dX2_changedBy_8 rfl (by decide) rfl rfl ?_
  have L9 : ∀ (fuel : Nat) (x2_9 : Int) (x3_9 : Int) (σ_9 : zq_S), ((-2147483648) ≤ x2_9 ∧ x2_9 ≤ 2147483647) → (0 ≤ x3_9 ∧ x3_9 ≤ 9) → (zc_T σ_9) → (zc_Fr [(134, 5), (135, -1), (136, -1), (138, -1)] σ σ_9) → 9 - x3_9 < (fuel : Int) → V 9 [some (ZR 134), none, some (ZI x2_9), some (ZI x3_9)] [] 284 σ_9 := by
    intro fuel
    induction fuel with
    | zero =>
      intro x2_9 x3_9 σ_9 hx2_9 hx3_9 hσ_9 hFσ_9 hm9
      exfalso; omega
    | succ fuel ih =>
      intro x2_9 x3_9 σ_9 hx2_9 hx3_9 hσ_9 hFσ_9 hm9
      have ih9 := ih
      show V 9 [some (ZR 134), none, some (ZI x2_9), some (ZI x3_9)] [] 284 σ_9
      refine zr_iload_n (pc := 9) hV dX2_changedBy_9 rfl rfl ?_
      refine zr_bipush (pc := 10) hV 9 dX2_changedBy_10 (by decide) ?_
      refine zr_icmp_ge (pc := 12) hV 52 dX2_changedBy_12 (by decide) (by omega) ⟨by decide, by decide⟩ (fun c1 => ?_) (fun c1 => ?_)
      · show V 52 [some (ZR 134), none, some (ZI x2_9), some (ZI x3_9)] [] 284 σ_9
        refine zr_iload_n (pc := 52) hV dX2_changedBy_52 rfl rfl ?_
        exact zr_iret (pc := 53) hV dX2_changedBy_53 rfl rfl ⟨_, rfl, (by omega), hσ_9, hFσ_9, trivial⟩
      · show V 15 [some (ZR 134), none, some (ZI x2_9), some (ZI x3_9)] [] 284 σ_9
        refine zr_aload_n (pc := 15) hV dX2_changedBy_15 rfl rfl ?_
        refine zr_getR (pc := 16) hV 2 136 dX2_changedBy_16 fX2_15 rfl rfl (zc_k134 zc_s134) (zc_pos zc_s134 rfl) (zc_g134_2 hσ_9 zc_s134) (by decide) ?_
        refine zr_iload_n (pc := 19) hV dX2_changedBy_19 rfl rfl ?_
        refine zr_iald (pc := 20) hV dX2_changedBy_20 (zc_k136 zc_s136) (zc_pos zc_s136 rfl) rfl (by omega) ?_
        have t2 := zc_ga136 hσ_9 zc_s136 x3_9
        refine zr_iconst (pc := 21) hV (-1) dX2_changedBy_21 rfl ?_
        refine zr_icmp_eq (pc := 22) hV 46 dX2_changedBy_22 (by decide) (by omega) ⟨by decide, by decide⟩ (fun c3 => ?_) (fun c3 => ?_)
        · show V 46 [some (ZR 134), none, some (ZI x2_9), some (ZI x3_9)] [] 284 σ_9
          refine zr_iinc (pc := 46) hV [some (ZR 134), none, some (ZI x2_9), some (ZI (x3_9 + 1))] (x3_9 + 1) dX2_changedBy_46 rfl rfl (by decide) rfl rfl ?_
          refine zr_goto (pc := 49) hV 9 dX2_changedBy_49 (by decide) ?_
          exact ih9 x2_9 (x3_9 + 1) σ_9 (by omega) (by omega) hσ_9 hFσ_9 (by omega)
        · show V 25 [some (ZR 134), none, some (ZI x2_9), some (ZI x3_9)] [] 284 σ_9
          refine zr_aload_n (pc := 25) hV dX2_changedBy_25 rfl rfl ?_
          refine zr_getR (pc := 26) hV 2 136 dX2_changedBy_26 fX2_15 rfl rfl (zc_k134 zc_s134) (zc_pos zc_s134 rfl) (zc_g134_2 hσ_9 zc_s134) (by decide) ?_
          refine zr_iload_n (pc := 29) hV dX2_changedBy_29 rfl rfl ?_
          refine zr_iald (pc := 30) hV dX2_changedBy_30 (zc_k136 zc_s136) (zc_pos zc_s136 rfl) rfl (by omega) ?_
          have t4 := zc_ga136 hσ_9 zc_s136 x3_9
          refine zr_aload_n (pc := 31) hV dX2_changedBy_31 rfl rfl ?_
          refine zr_iload_n (pc := 32) hV dX2_changedBy_32 rfl rfl ?_
          refine zr_callVi (pc := 33) hV [ZI x3_9] (st := [ZI (σ_9 136 x3_9)]) (c_X2_aheadIn (σ := σ_9) hσ_9 x3_9 (by omega)) dX2_changedBy_33 mX2_41 (zc_k134 zc_s134) (zc_pos zc_s134 rfl) (by decide) (Nat.le_of_ble_eq_true rfl) (Nat.le_refl _) (fun r33 σ33 hr33 pσ33 => ?_)
          obtain ⟨hσ33, hfσ33, pσ33⟩ := pσ33
          have hFσ33 := zc_Fc hfσ33 rfl hFσ_9
          refine zr_icmp_eq (pc := 36) hV 46 dX2_changedBy_36 (by decide) (by omega) (by omega) (fun c5 => ?_) (fun c5 => ?_)
          · show V 46 [some (ZR 134), none, some (ZI x2_9), some (ZI x3_9)] [] 284 σ33
            refine zr_iinc (pc := 46) hV [some (ZR 134), none, some (ZI x2_9), some (ZI (x3_9 + 1))] (x3_9 + 1) dX2_changedBy_46 rfl rfl (by decide) rfl rfl ?_
            refine zr_goto (pc := 49) hV 9 dX2_changedBy_49 (by decide) ?_
            exact ih9 x2_9 (x3_9 + 1) σ33 (by omega) (by omega) hσ33 hFσ33 (by omega)
          · show V 39 [some (ZR 134), none, some (ZI x2_9), some (ZI x3_9)] [] 284 σ33
            refine zr_iload_n (pc := 39) hV dX2_changedBy_39 rfl rfl ?_
            refine zr_iload_n (pc := 40) hV dX2_changedBy_40 rfl rfl ?_
            refine zr_callSp (pc := 41) hV [ZI x3_9] (st := [ZI x2_9]) (c_X2_bitOf (σ := σ33) x3_9 (by omega)) dX2_changedBy_41 mX2_59 (by decide) (Nat.le_of_ble_eq_true rfl) (Nat.le_refl _) (fun r41 hr41 pr41 => ?_)
            refine zr_ior (pc := 44) hV dX2_changedBy_44 ?_
            have t6 := zq_or_in x2_9 r41
            refine zr_istore_n (pc := 45) hV [some (ZR 134), none, some (ZI (zq_or x2_9 r41)), some (ZI x3_9)] dX2_changedBy_45 rfl (by decide) rfl rfl ?_
            show V 46 [some (ZR 134), none, some (ZI (zq_or x2_9 r41)), some (ZI x3_9)] [] 284 σ33
            refine zr_iinc (pc := 46) hV [some (ZR 134), none, some (ZI (zq_or x2_9 r41)), some (ZI (x3_9 + 1))] (x3_9 + 1) dX2_changedBy_46 rfl rfl (by decide) rfl rfl ?_
            refine zr_goto (pc := 49) hV 9 dX2_changedBy_49 (by decide) ?_
            exact ih9 (zq_or x2_9 r41) (x3_9 + 1) σ33 (by omega) (by omega) hσ33 hFσ33 (by omega)
  refine zr_sub (pc := 9) hV [some (ZR 134), none, some (ZI 0), some (ZI 0)] (⟨rfl, rfl, rfl, trivial⟩) ?_
  exact L9 (9 - (0 : Int) + 1 : Int).toNat 0 0 σ4 (by omega) (by omega) hσ4 hFσ4 (by omega)
set_option maxHeartbeats 800000 in
theorem c_X2_whatWrites {σ : zq_S} (hσ : zc_T σ) (order : Int) (korder : zc_kd order = 4)  : zq_C zc_w yX2_whatWrites cX2_whatWrites 4 (some .int) 6 132 284 284 [ZR 134, ZR order] σ (zq_pi (fun r τ => zc_T τ ∧ zc_Fr [(4, 16), (134, 5), (135, -1), (136, -1), (138, -1)] σ τ ∧ (True))) := by
  refine zq_C_of (by decide) (Nat.le_refl _) (Nat.le_of_ble_eq_true rfl) [some (ZR 134), some (ZR order), none, none] rfl (fun V hV => ?_)
  have poorder := zc_pos korder rfl
  have hFσ := zc_Fr_rf [(4, 16), (134, 5), (135, -1), (136, -1), (138, -1)] σ
  show V 0 [some (ZR 134), some (ZR order), none, none] [] 284 σ
  refine zr_aload_n (pc := 0) hV dX2_whatWrites_0 rfl rfl ?_
  refine zr_getI (pc := 1) hV 16 dX2_whatWrites_1 fX2_90 rfl rfl (zc_k4 korder) (zc_pos korder rfl) ?_
  have t1 := zc_g4_16 hσ korder
  refine zr_iconst (pc := 4) hV (-1) dX2_whatWrites_4 rfl ?_
  refine zr_icmp_ne (pc := 5) hV 59 dX2_whatWrites_5 (by decide) (by omega) ⟨by decide, by decide⟩ (fun c2 => ?_) (fun c2 => ?_)
  · show V 59 [some (ZR 134), some (ZR order), none, none] [] 284 σ
    refine zr_aload_n (pc := 59) hV dX2_whatWrites_59 rfl rfl ?_
    refine zr_getI (pc := 60) hV 16 dX2_whatWrites_60 fX2_90 rfl rfl (zc_k4 korder) (zc_pos korder rfl) ?_
    have t3 := zc_g4_16 hσ korder
    exact zr_iret (pc := 63) hV dX2_whatWrites_63 rfl rfl ⟨_, rfl, (by omega), hσ, hFσ, trivial⟩
  · show V 8 [some (ZR 134), some (ZR order), none, none] [] 284 σ
    refine zr_iconst (pc := 8) hV 0 dX2_whatWrites_8 rfl ?_
    refine zr_istore_n (pc := 9) hV [some (ZR 134), some (ZR order), some (ZI 0), none] dX2_whatWrites_9 rfl (by decide) rfl rfl ?_
    refine zr_aload_n (pc := 10) hV dX2_whatWrites_10 rfl rfl ?_
    refine zr_callVv (pc := 11) hV [] (st := []) (c_X2_startOver (σ := σ) hσ) dX2_whatWrites_11 mX2_69 (zc_k134 zc_s134) (zc_pos zc_s134 rfl) (by decide) (Nat.le_of_ble_eq_true rfl) (Nat.le_refl _) (fun σ11 pσ11 => ?_)
    obtain ⟨hσ11, hfσ11, pσ11⟩ := pσ11
    have hFσ11 := zc_Fc hfσ11 rfl hFσ
    refine zr_iconst (pc := 14) hV 0 dX2_whatWrites_14 rfl ?_
    refine zr_istore_n (pc := 15) hV [some (ZR 134), some (ZR order), some (ZI 0), some (ZI 0)] dX2_whatWrites_15 rfl (by decide) rfl rfl ?_
    have L16 : ∀ (fuel : Nat) (x2_16 : Int) (x3_16 : Int) (σ_16 : zq_S), ((-2147483648) ≤ x2_16 ∧ x2_16 ≤ 2147483647) → (0 ≤ x3_16 ∧ x3_16 ≤ 1000000) → (zc_T σ_16) → (zc_Fr [(4, 16), (134, 5), (135, -1), (136, -1), (138, -1)] σ σ_16) → 1000000 - x3_16 < (fuel : Int) → V 16 [some (ZR 134), some (ZR order), some (ZI x2_16), some (ZI x3_16)] [] 284 σ_16 := by
      intro fuel
      induction fuel with
      | zero =>
        intro x2_16 x3_16 σ_16 hx2_16 hx3_16 hσ_16 hFσ_16 hm16
        exfalso; omega
      | succ fuel ih =>
        intro x2_16 x3_16 σ_16 hx2_16 hx3_16 hσ_16 hFσ_16 hm16
        have ih16 := ih
        show V 16 [some (ZR 134), some (ZR order), some (ZI x2_16), some (ZI x3_16)] [] 284 σ_16
        refine zr_iload_n (pc := 16) hV dX2_whatWrites_16 rfl rfl ?_
        refine zr_ldc (pc := 17) (v := 1000000) hV 1000000 dX2_whatWrites_17 kX2_72 (by decide) ?_
        refine zr_icmp_ge (pc := 19) hV 54 dX2_whatWrites_19 (by decide) (by omega) ⟨by decide, by decide⟩ (fun c4 => ?_) (fun c4 => ?_)
        · show V 54 [some (ZR 134), some (ZR order), some (ZI x2_16), some (ZI x3_16)] [] 284 σ_16
          refine zr_aload_n (pc := 54) hV dX2_whatWrites_54 rfl rfl ?_
          refine zr_iload_n (pc := 55) hV dX2_whatWrites_55 rfl rfl ?_
          refine zr_putI (pc := 56) hV 16 dX2_whatWrites_56 fX2_90 rfl rfl rfl (zc_k4 korder) (zc_pos korder rfl) (fun σ56 eσ56 => ?_)
          have hσ56 : zc_T σ56 := zc_u4_16 eσ56 hσ_16 korder (by omega)
          have hFσ56 := zc_Fw eσ56 korder rfl hFσ_16
          show V 59 [some (ZR 134), some (ZR order), some (ZI x2_16), some (ZI x3_16)] [] 284 σ56
          refine zr_aload_n (pc := 59) hV dX2_whatWrites_59 rfl rfl ?_
          refine zr_getI (pc := 60) hV 16 dX2_whatWrites_60 fX2_90 rfl rfl (zc_k4 korder) (zc_pos korder rfl) ?_
          have t5 := zc_g4_16 hσ56 korder
          have t6 : σ56 order 16 = x2_16 := by rw [eσ56]; exact zq_up_same _ _ _ _
          exact zr_iret (pc := 63) hV dX2_whatWrites_63 rfl rfl ⟨_, rfl, (by omega), hσ56, hFσ56, trivial⟩
        · show V 22 [some (ZR 134), some (ZR order), some (ZI x2_16), some (ZI x3_16)] [] 284 σ_16
          refine zr_iload_n (pc := 22) hV dX2_whatWrites_22 rfl rfl ?_
          refine zr_aload_n (pc := 23) hV dX2_whatWrites_23 rfl rfl ?_
          refine zr_aload_n (pc := 24) hV dX2_whatWrites_24 rfl rfl ?_
          refine zr_callVi (pc := 25) hV [ZR order] (st := [ZI x2_16]) (c_X2_changedBy (σ := σ_16) hσ_16 order korder) dX2_whatWrites_25 mX2_93 (zc_k134 zc_s134) (zc_pos zc_s134 rfl) (by decide) (Nat.le_of_ble_eq_true rfl) (Nat.le_refl _) (fun r25 σ25 hr25 pσ25 => ?_)
          obtain ⟨hσ25, hfσ25, pσ25⟩ := pσ25
          have hFσ25 := zc_Fc hfσ25 rfl hFσ_16
          refine zr_ior (pc := 28) hV dX2_whatWrites_28 ?_
          have t7 := zq_or_in x2_16 r25
          refine zr_istore_n (pc := 29) hV [some (ZR 134), some (ZR order), some (ZI (zq_or x2_16 r25)), some (ZI x3_16)] dX2_whatWrites_29 rfl (by decide) rfl rfl ?_
          refine zr_iload_n (pc := 30) hV dX2_whatWrites_30 rfl rfl ?_
          refine zr_aload_n (pc := 31) hV dX2_whatWrites_31 rfl rfl ?_
          refine zr_getI (pc := 32) hV 13 dX2_whatWrites_32 fX2_97 rfl rfl (zc_k4 korder) (zc_pos korder rfl) ?_
          have t8 := zc_g4_13 hσ25 korder
          have t9 : σ25 order 13 = σ_16 order 13 := hfσ25 _ _ (zc_out_at korder rfl)
          have t10 : σ_16 order 13 = σ order 13 := hFσ_16 _ _ (zc_out_at korder rfl)
          refine zr_icmp_eq (pc := 35) hV 54 dX2_whatWrites_35 (by decide) (by omega) (by omega) (fun c11 => ?_) (fun c11 => ?_)
          · show V 54 [some (ZR 134), some (ZR order), some (ZI (zq_or x2_16 r25)), some (ZI x3_16)] [] 284 σ25
            refine zr_aload_n (pc := 54) hV dX2_whatWrites_54 rfl rfl ?_
            refine zr_iload_n (pc := 55) hV dX2_whatWrites_55 rfl rfl ?_
            refine zr_putI (pc := 56) hV 16 dX2_whatWrites_56 fX2_90 rfl rfl rfl (zc_k4 korder) (zc_pos korder rfl) (fun σ56 eσ56 => ?_)
            have hσ56 : zc_T σ56 := zc_u4_16 eσ56 hσ25 korder (by omega)
            have hFσ56 := zc_Fw eσ56 korder rfl hFσ25
            show V 59 [some (ZR 134), some (ZR order), some (ZI (zq_or x2_16 r25)), some (ZI x3_16)] [] 284 σ56
            refine zr_aload_n (pc := 59) hV dX2_whatWrites_59 rfl rfl ?_
            refine zr_getI (pc := 60) hV 16 dX2_whatWrites_60 fX2_90 rfl rfl (zc_k4 korder) (zc_pos korder rfl) ?_
            have t12 := zc_g4_16 hσ56 korder
            have t13 : σ56 order 16 = zq_or x2_16 r25 := by rw [eσ56]; exact zq_up_same _ _ _ _
            exact zr_iret (pc := 63) hV dX2_whatWrites_63 rfl rfl ⟨_, rfl, (by omega), hσ56, hFσ56, trivial⟩
          · show V 38 [some (ZR 134), some (ZR order), some (ZI (zq_or x2_16 r25)), some (ZI x3_16)] [] 284 σ25
            refine zr_aload_n (pc := 38) hV dX2_whatWrites_38 rfl rfl ?_
            refine zr_callVi (pc := 39) hV [] (st := []) (c_X2_goToNext (σ := σ25) hσ25) dX2_whatWrites_39 mX2_76 (zc_k134 zc_s134) (zc_pos zc_s134 rfl) (by decide) (Nat.le_of_ble_eq_true rfl) (Nat.le_refl _) (fun r39 σ39 hr39 pσ39 => ?_)
            obtain ⟨hσ39, hfσ39, pσ39⟩ := pσ39
            have hFσ39 := zc_Fc hfσ39 rfl hFσ25
            refine zr_if_ne (pc := 42) hV 48 dX2_whatWrites_42 (by decide) (by omega) (fun c14 => ?_) (fun c14 => ?_)
            · show V 48 [some (ZR 134), some (ZR order), some (ZI (zq_or x2_16 r25)), some (ZI x3_16)] [] 284 σ39
              refine zr_iinc (pc := 48) hV [some (ZR 134), some (ZR order), some (ZI (zq_or x2_16 r25)), some (ZI (x3_16 + 1))] (x3_16 + 1) dX2_whatWrites_48 rfl rfl (by decide) rfl rfl ?_
              refine zr_goto (pc := 51) hV 16 dX2_whatWrites_51 (by decide) ?_
              exact ih16 (zq_or x2_16 r25) (x3_16 + 1) σ39 (by omega) (by omega) hσ39 hFσ39 (by omega)
            · show V 45 [some (ZR 134), some (ZR order), some (ZI (zq_or x2_16 r25)), some (ZI x3_16)] [] 284 σ39
              refine zr_goto (pc := 45) hV 54 dX2_whatWrites_45 (by decide) ?_
              show V 54 [some (ZR 134), some (ZR order), some (ZI (zq_or x2_16 r25)), some (ZI x3_16)] [] 284 σ39
              refine zr_aload_n (pc := 54) hV dX2_whatWrites_54 rfl rfl ?_
              refine zr_iload_n (pc := 55) hV dX2_whatWrites_55 rfl rfl ?_
              refine zr_putI (pc := 56) hV 16 dX2_whatWrites_56 fX2_90 rfl rfl rfl (zc_k4 korder) (zc_pos korder rfl) (fun σ56 eσ56 => ?_)
              have hσ56 : zc_T σ56 := zc_u4_16 eσ56 hσ39 korder (by omega)
              have hFσ56 := zc_Fw eσ56 korder rfl hFσ39
              show V 59 [some (ZR 134), some (ZR order), some (ZI (zq_or x2_16 r25)), some (ZI x3_16)] [] 284 σ56
              refine zr_aload_n (pc := 59) hV dX2_whatWrites_59 rfl rfl ?_
              refine zr_getI (pc := 60) hV 16 dX2_whatWrites_60 fX2_90 rfl rfl (zc_k4 korder) (zc_pos korder rfl) ?_
              have t15 := zc_g4_16 hσ56 korder
              have t16 : σ56 order 16 = zq_or x2_16 r25 := by rw [eσ56]; exact zq_up_same _ _ _ _
              exact zr_iret (pc := 63) hV dX2_whatWrites_63 rfl rfl ⟨_, rfl, (by omega), hσ56, hFσ56, trivial⟩
    exact L16 (1000000 - (0 : Int) + 1 : Int).toNat 0 0 σ11 (by omega) (by omega) hσ11 hFσ11 (by omega)
set_option maxHeartbeats 800000 in
theorem c_X2_leaveTheSame {σ : zq_S} (hσ : zc_T σ) (a : Int) (ka : zc_kd a = 4) (b : Int) (kb : zc_kd b = 4)  : zq_C zc_w yX2_leaveTheSame cX2_leaveTheSame 4 (some .boolean) 5 109 284 284 [ZR 134, ZR a, ZR b] σ (zq_pi (fun r τ => zc_T τ ∧ zc_Fr [(134, 5), (135, -1), (136, -1), (137, -1), (138, -1)] σ τ ∧ ((0 ≤ r ∧ r ≤ 1)))) := by
  refine zq_C_of (by decide) (Nat.le_refl _) (Nat.le_of_ble_eq_true rfl) [some (ZR 134), some (ZR a), some (ZR b), none] rfl (fun V hV => ?_)
  have poa := zc_pos ka rfl
  have pob := zc_pos kb rfl
  have hFσ := zc_Fr_rf [(134, 5), (135, -1), (136, -1), (137, -1), (138, -1)] σ
  show V 0 [some (ZR 134), some (ZR a), some (ZR b), none] [] 284 σ
  refine zr_aload_n (pc := 0) hV dX2_leaveTheSame_0 rfl rfl ?_
  refine zr_callVv (pc := 1) hV [] (st := []) (c_X2_startOver (σ := σ) hσ) dX2_leaveTheSame_1 mX2_69 (zc_k134 zc_s134) (zc_pos zc_s134 rfl) (by decide) (Nat.le_of_ble_eq_true rfl) (Nat.le_refl _) (fun σ1 pσ1 => ?_)
  obtain ⟨hσ1, hfσ1, pσ1⟩ := pσ1
  have hFσ1 := zc_Fc hfσ1 rfl hFσ
  refine zr_iconst (pc := 4) hV 0 dX2_leaveTheSame_4 rfl ?_
  refine zr_istore_n (pc := 5) hV [some (ZR 134), some (ZR a), some (ZR b), some (ZI 0)] dX2_leaveTheSame_5 rfl (by decide) rfl rfl ?_
  have L6 : ∀ (fuel : Nat) (x3_6 : Int) (σ_6 : zq_S), (0 ≤ x3_6 ∧ x3_6 ≤ 1000000) → (zc_T σ_6) → (zc_Fr [(134, 5), (135, -1), (136, -1), (137, -1), (138, -1)] σ σ_6) → 1000000 - x3_6 < (fuel : Int) → V 6 [some (ZR 134), some (ZR a), some (ZR b), some (ZI x3_6)] [] 284 σ_6 := by
    intro fuel
    induction fuel with
    | zero =>
      intro x3_6 σ_6 hx3_6 hσ_6 hFσ_6 hm6
      exfalso; omega
    | succ fuel ih =>
      intro x3_6 σ_6 hx3_6 hσ_6 hFσ_6 hm6
      have ih6 := ih
      show V 6 [some (ZR 134), some (ZR a), some (ZR b), some (ZI x3_6)] [] 284 σ_6
      refine zr_iload_n (pc := 6) hV dX2_leaveTheSame_6 rfl rfl ?_
      refine zr_ldc (pc := 7) (v := 1000000) hV 1000000 dX2_leaveTheSame_7 kX2_72 (by decide) ?_
      refine zr_icmp_ge (pc := 9) hV 63 dX2_leaveTheSame_9 (by decide) (by omega) ⟨by decide, by decide⟩ (fun c1 => ?_) (fun c1 => ?_)
      · show V 63 [some (ZR 134), some (ZR a), some (ZR b), some (ZI x3_6)] [] 284 σ_6
        refine zr_iconst (pc := 63) hV 1 dX2_leaveTheSame_63 rfl ?_
        exact zr_zret (pc := 64) hV dX2_leaveTheSame_64 rfl rfl (by omega) ⟨_, rfl, ⟨by decide, by decide⟩, hσ_6, hFσ_6, (by omega)⟩
      · show V 12 [some (ZR 134), some (ZR a), some (ZR b), some (ZI x3_6)] [] 284 σ_6
        refine zr_aload_n (pc := 12) hV dX2_leaveTheSame_12 rfl rfl ?_
        refine zr_aload_n (pc := 13) hV dX2_leaveTheSame_13 rfl rfl ?_
        refine zr_callVv (pc := 14) hV [ZR a] (st := []) (c_X2_doAfresh (σ := σ_6) hσ_6 a ka) dX2_leaveTheSame_14 mX2_100 (zc_k134 zc_s134) (zc_pos zc_s134 rfl) (by decide) (Nat.le_of_ble_eq_true rfl) (Nat.le_refl _) (fun σ14 pσ14 => ?_)
        obtain ⟨hσ14, hfσ14, pσ14⟩ := pσ14
        have hFσ14 := zc_Fc hfσ14 rfl hFσ_6
        refine zr_aload_n (pc := 17) hV dX2_leaveTheSame_17 rfl rfl ?_
        refine zr_getR (pc := 18) hV 2 136 dX2_leaveTheSame_18 fX2_15 rfl rfl (zc_k134 zc_s134) (zc_pos zc_s134 rfl) (zc_g134_2 hσ14 zc_s134) (by decide) ?_
        refine zr_iconst (pc := 21) hV 0 dX2_leaveTheSame_21 rfl ?_
        refine zr_aload_n (pc := 22) hV dX2_leaveTheSame_22 rfl rfl ?_
        refine zr_getR (pc := 23) hV 3 137 dX2_leaveTheSame_23 fX2_18 rfl rfl (zc_k134 zc_s134) (zc_pos zc_s134 rfl) (zc_g134_3 hσ14 zc_s134) (by decide) ?_
        refine zr_iconst (pc := 26) hV 0 dX2_leaveTheSame_26 rfl ?_
        refine zr_bipush (pc := 27) hV 9 dX2_leaveTheSame_27 (by decide) ?_
        refine zr_copy (pc := 29) hV dX2_leaveTheSame_29 lX2_80 lcp_nat lcp_stat lcp_ini (zc_k136 zc_s136) (zc_k137 zc_s137) (zc_pos zc_s136 rfl) (zc_pos zc_s137 rfl) rfl rfl (by omega) (by omega) (by omega) rfl rfl (fun σ29 eσ29 => ?_)
        have hσ29 : zc_T σ29 := zc_Tcell eσ29 hσ14 zc_s137 (fun i => by split; exact zc_ga136 hσ14 zc_s136 _; exact zc_ga137 hσ14 zc_s137 _)
        have hFσ29 := zc_Fcell eσ29 zc_s137 rfl hFσ14
        refine zr_aload_n (pc := 32) hV dX2_leaveTheSame_32 rfl rfl ?_
        refine zr_aload_n (pc := 33) hV dX2_leaveTheSame_33 rfl rfl ?_
        refine zr_callVv (pc := 34) hV [ZR b] (st := []) (c_X2_doAfresh (σ := σ29) hσ29 b kb) dX2_leaveTheSame_34 mX2_100 (zc_k134 zc_s134) (zc_pos zc_s134 rfl) (by decide) (Nat.le_of_ble_eq_true rfl) (Nat.le_refl _) (fun σ34 pσ34 => ?_)
        obtain ⟨hσ34, hfσ34, pσ34⟩ := pσ34
        have hFσ34 := zc_Fc hfσ34 rfl hFσ29
        refine zr_aload_n (pc := 37) hV dX2_leaveTheSame_37 rfl rfl ?_
        refine zr_bipush (pc := 38) hV 9 dX2_leaveTheSame_38 (by decide) ?_
        refine zr_callVi (pc := 40) hV [ZI 9] (st := []) (c_X2_isUnlike (σ := σ34) hσ34 9 (by omega)) dX2_leaveTheSame_40 mX2_86 (zc_k134 zc_s134) (zc_pos zc_s134 rfl) (by decide) (Nat.le_of_ble_eq_true rfl) (Nat.le_refl _) (fun r40 σ40 hr40 pσ40 => ?_)
        obtain ⟨hσ40, hfσ40, pσ40⟩ := pσ40
        have hFσ40 := zc_Fc hfσ40 rfl hFσ34
        refine zr_if_eq (pc := 43) hV 48 dX2_leaveTheSame_43 (by decide) (by omega) (fun c2 => ?_) (fun c2 => ?_)
        · show V 48 [some (ZR 134), some (ZR a), some (ZR b), some (ZI x3_6)] [] 284 σ40
          refine zr_aload_n (pc := 48) hV dX2_leaveTheSame_48 rfl rfl ?_
          refine zr_callVi (pc := 49) hV [] (st := []) (c_X2_goToNext (σ := σ40) hσ40) dX2_leaveTheSame_49 mX2_76 (zc_k134 zc_s134) (zc_pos zc_s134 rfl) (by decide) (Nat.le_of_ble_eq_true rfl) (Nat.le_refl _) (fun r49 σ49 hr49 pσ49 => ?_)
          obtain ⟨hσ49, hfσ49, pσ49⟩ := pσ49
          have hFσ49 := zc_Fc hfσ49 rfl hFσ40
          refine zr_if_ne (pc := 52) hV 57 dX2_leaveTheSame_52 (by decide) (by omega) (fun c3 => ?_) (fun c3 => ?_)
          · show V 57 [some (ZR 134), some (ZR a), some (ZR b), some (ZI x3_6)] [] 284 σ49
            refine zr_iinc (pc := 57) hV [some (ZR 134), some (ZR a), some (ZR b), some (ZI (x3_6 + 1))] (x3_6 + 1) dX2_leaveTheSame_57 rfl rfl (by decide) rfl rfl ?_
            refine zr_goto (pc := 60) hV 6 dX2_leaveTheSame_60 (by decide) ?_
            exact ih6 (x3_6 + 1) σ49 (by omega) hσ49 hFσ49 (by omega)
          · show V 55 [some (ZR 134), some (ZR a), some (ZR b), some (ZI x3_6)] [] 284 σ49
            refine zr_iconst (pc := 55) hV 1 dX2_leaveTheSame_55 rfl ?_
            exact zr_zret (pc := 56) hV dX2_leaveTheSame_56 rfl rfl (by omega) ⟨_, rfl, ⟨by decide, by decide⟩, hσ49, hFσ49, (by omega)⟩
        · show V 46 [some (ZR 134), some (ZR a), some (ZR b), some (ZI x3_6)] [] 284 σ40
          refine zr_iconst (pc := 46) hV 0 dX2_leaveTheSame_46 rfl ?_
          exact zr_zret (pc := 47) hV dX2_leaveTheSame_47 rfl rfl (by omega) ⟨_, rfl, ⟨by decide, by decide⟩, hσ40, hFσ40, (by omega)⟩
  exact L6 (1000000 - (0 : Int) + 1 : Int).toNat 0 σ1 (by omega) hσ1 hFσ1 (by omega)
