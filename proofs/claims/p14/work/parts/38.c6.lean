set_option maxHeartbeats 800000 in
theorem c_X2_doAfresh {σ : zq_S} (hσ : zc_T σ) (order : Int) (korder : zc_kd order = 4)  : zq_C zc_w yX2_doAfresh cX2_doAfresh 2 (none) 4 88 284 284 [ZR 134, ZR order] σ (zq_pv (fun τ => zc_T τ ∧ zc_Fr [(134, 5), (135, -1), (136, -1), (138, -1)] σ τ ∧ (True))) := by
  refine zq_C_of (by decide) (Nat.le_refl _) (Nat.le_of_ble_eq_true rfl) [some (ZR 134), some (ZR order)] rfl (fun V hV => ?_)
  have poorder := zc_pos korder rfl
  have hFσ := zc_Fr_rf [(134, 5), (135, -1), (136, -1), (138, -1)] σ
  show V 0 [some (ZR 134), some (ZR order)] [] 284 σ
  refine zr_aload_n (pc := 0) hV dX2_doAfresh_0 rfl rfl ?_
  refine zr_getR (pc := 1) hV 2 136 dX2_doAfresh_1 fX2_15 rfl rfl (zc_k134 zc_s134) (zc_pos zc_s134 rfl) (zc_g134_2 hσ zc_s134) (by decide) ?_
  refine zr_iconst (pc := 4) hV (-1) dX2_doAfresh_4 rfl ?_
  refine zr_callSv (pc := 5) hV [ZR 136, ZI (-1)] (st := []) (c_fill (σ := σ) hσ 136 (-1) zc_s136 rfl rfl ⟨by decide, by decide⟩ (fun _ => ⟨by omega, by omega⟩)) dX2_doAfresh_5 mX2_28 (by decide) (Nat.le_of_ble_eq_true rfl) (Nat.le_refl _) (fun σ5 pσ5 => ?_)
  obtain ⟨hσ5, hfσ5, pσ5⟩ := pσ5
  have hFσ5 := zc_Fc hfσ5 rfl hFσ
  refine zr_aload_n (pc := 8) hV dX2_doAfresh_8 rfl rfl ?_
  refine zr_aload_n (pc := 9) hV dX2_doAfresh_9 rfl rfl ?_
  refine zr_callVv (pc := 10) hV [ZR 134] (st := []) (c_X3_doOn_N (σ := σ5) hσ5 order korder) dX2_doAfresh_10 mX2_50 (zc_k4 korder) (zc_pos korder rfl) (by decide) (Nat.le_of_ble_eq_true rfl) (Nat.le_refl _) (fun σ10 pσ10 => ?_)
  obtain ⟨hσ10, hfσ10, pσ10⟩ := pσ10
  have hFσ10 := zc_Fc hfσ10 rfl hFσ5
  exact zr_vret (pc := 13) hV dX2_doAfresh_13 rfl rfl ⟨rfl, hσ10, hFσ10, trivial⟩
set_option maxHeartbeats 800000 in
theorem c_X2_isUnlike {σ : zq_S} (hσ : zc_T σ) (butFor : Int) (q0 : zq_in butFor) : zq_C zc_w yX2_isUnlike cX2_isUnlike 4 (some .boolean) 2 42 284 284 [ZR 134, ZI butFor] σ (zq_pi (fun r τ => zc_T τ ∧ zc_Fr [(134, 5), (135, -1), (138, -1)] σ τ ∧ ((0 ≤ r ∧ r ≤ 1)))) := by
  refine zq_C_of (by decide) (Nat.le_refl _) (Nat.le_of_ble_eq_true rfl) [some (ZR 134), some (ZI butFor), none, none] rfl (fun V hV => ?_)
  have hFσ := zc_Fr_rf [(134, 5), (135, -1), (138, -1)] σ
  show V 0 [some (ZR 134), some (ZI butFor), none, none] [] 284 σ
  refine zr_iconst (pc := 0) hV 0 dX2_isUnlike_0 rfl ?_
  refine zr_istore_n (pc := 1) hV [some (ZR 134), some (ZI butFor), some (ZI 0), none] dX2_isUnlike_1 rfl (by decide) rfl rfl ?_
  have L2 : ∀ (fuel : Nat) (x2_2 : Int) (σ_2 : zq_S), (0 ≤ x2_2 ∧ x2_2 ≤ 9) → (zc_T σ_2) → (zc_Fr [(134, 5), (135, -1), (138, -1)] σ σ_2) → 9 - x2_2 < (fuel : Int) → V 2 [some (ZR 134), some (ZI butFor), some (ZI x2_2), none] [] 284 σ_2 := by
    intro fuel
    induction fuel with
    | zero =>
      intro x2_2 σ_2 hx2_2 hσ_2 hFσ_2 hm2
      exfalso; omega
    | succ fuel ih =>
      intro x2_2 σ_2 hx2_2 hσ_2 hFσ_2 hm2
      have ih2 := ih
      show V 2 [some (ZR 134), some (ZI butFor), some (ZI x2_2), none] [] 284 σ_2
      refine zr_iload_n (pc := 2) hV dX2_isUnlike_2 rfl rfl ?_
      refine zr_bipush (pc := 3) hV 9 dX2_isUnlike_3 (by decide) ?_
      refine zr_icmp_ge (pc := 5) hV 70 dX2_isUnlike_5 (by decide) (by omega) ⟨by decide, by decide⟩ (fun c1 => ?_) (fun c1 => ?_)
      · show V 70 [some (ZR 134), some (ZI butFor), some (ZI x2_2), none] [] 284 σ_2
        refine zr_iconst (pc := 70) hV 0 dX2_isUnlike_70 rfl ?_
        exact zr_zret (pc := 71) hV dX2_isUnlike_71 rfl rfl (by omega) ⟨_, rfl, ⟨by decide, by decide⟩, hσ_2, hFσ_2, (by omega)⟩
      · show V 8 [some (ZR 134), some (ZI butFor), some (ZI x2_2), none] [] 284 σ_2
        refine zr_iload_n (pc := 8) hV dX2_isUnlike_8 rfl rfl ?_
        refine zr_iload_n (pc := 9) hV dX2_isUnlike_9 rfl rfl ?_
        refine zr_icmp_eq (pc := 10) hV 64 dX2_isUnlike_10 (by decide) (by omega) (by omega) (fun c2 => ?_) (fun c2 => ?_)
        · show V 64 [some (ZR 134), some (ZI butFor), some (ZI x2_2), none] [] 284 σ_2
          refine zr_iinc (pc := 64) hV [some (ZR 134), some (ZI butFor), some (ZI (x2_2 + 1)), none] (x2_2 + 1) dX2_isUnlike_64 rfl rfl (by decide) rfl rfl ?_
          refine zr_goto (pc := 67) hV 2 dX2_isUnlike_67 (by decide) ?_
          exact ih2 (x2_2 + 1) σ_2 (by omega) hσ_2 hFσ_2 (by omega)
        · show V 13 [some (ZR 134), some (ZI butFor), some (ZI x2_2), none] [] 284 σ_2
          refine zr_aload_n (pc := 13) hV dX2_isUnlike_13 rfl rfl ?_
          refine zr_getR (pc := 14) hV 3 137 dX2_isUnlike_14 fX2_18 rfl rfl (zc_k134 zc_s134) (zc_pos zc_s134 rfl) (zc_g134_3 hσ_2 zc_s134) (by decide) ?_
          refine zr_iload_n (pc := 17) hV dX2_isUnlike_17 rfl rfl ?_
          refine zr_iald (pc := 18) hV dX2_isUnlike_18 (zc_k137 zc_s137) (zc_pos zc_s137 rfl) rfl (by omega) ?_
          have t3 := zc_ga137 hσ_2 zc_s137 x2_2
          have t4 : σ_2 137 x2_2 = σ 137 x2_2 := hFσ_2 _ _ (zc_out_ar zc_s137 rfl)
          refine zr_aload_n (pc := 19) hV dX2_isUnlike_19 rfl rfl ?_
          refine zr_getR (pc := 20) hV 2 136 dX2_isUnlike_20 fX2_15 rfl rfl (zc_k134 zc_s134) (zc_pos zc_s134 rfl) (zc_g134_2 hσ_2 zc_s134) (by decide) ?_
          refine zr_iload_n (pc := 23) hV dX2_isUnlike_23 rfl rfl ?_
          refine zr_iald (pc := 24) hV dX2_isUnlike_24 (zc_k136 zc_s136) (zc_pos zc_s136 rfl) rfl (by omega) ?_
          have t5 := zc_ga136 hσ_2 zc_s136 x2_2
          have t6 : σ_2 136 x2_2 = σ 136 x2_2 := hFσ_2 _ _ (zc_out_ar zc_s136 rfl)
          refine zr_icmp_eq (pc := 25) hV 64 dX2_isUnlike_25 (by decide) (by omega) (by omega) (fun c7 => ?_) (fun c7 => ?_)
          · show V 64 [some (ZR 134), some (ZI butFor), some (ZI x2_2), none] [] 284 σ_2
            refine zr_iinc (pc := 64) hV [some (ZR 134), some (ZI butFor), some (ZI (x2_2 + 1)), none] (x2_2 + 1) dX2_isUnlike_64 rfl rfl (by decide) rfl rfl ?_
            refine zr_goto (pc := 67) hV 2 dX2_isUnlike_67 (by decide) ?_
            exact ih2 (x2_2 + 1) σ_2 (by omega) hσ_2 hFσ_2 (by omega)
          · show V 28 [some (ZR 134), some (ZI butFor), some (ZI x2_2), none] [] 284 σ_2
            refine zr_aload_n (pc := 28) hV dX2_isUnlike_28 rfl rfl ?_
            refine zr_getR (pc := 29) hV 3 137 dX2_isUnlike_29 fX2_18 rfl rfl (zc_k134 zc_s134) (zc_pos zc_s134 rfl) (zc_g134_3 hσ_2 zc_s134) (by decide) ?_
            refine zr_iload_n (pc := 32) hV dX2_isUnlike_32 rfl rfl ?_
            refine zr_iald (pc := 33) hV dX2_isUnlike_33 (zc_k137 zc_s137) (zc_pos zc_s137 rfl) rfl (by omega) ?_
            have t8 := zc_ga137 hσ_2 zc_s137 x2_2
            have t9 : σ_2 137 x2_2 = σ 137 x2_2 := hFσ_2 _ _ (zc_out_ar zc_s137 rfl)
            refine zr_iconst (pc := 34) hV (-1) dX2_isUnlike_34 rfl ?_
            refine zr_icmp_ne (pc := 35) hV 46 dX2_isUnlike_35 (by decide) (by omega) ⟨by decide, by decide⟩ (fun c10 => ?_) (fun c10 => ?_)
            · show V 46 [some (ZR 134), some (ZI butFor), some (ZI x2_2), none] [] 284 σ_2
              refine zr_aload_n (pc := 46) hV dX2_isUnlike_46 rfl rfl ?_
              refine zr_getR (pc := 47) hV 3 137 dX2_isUnlike_47 fX2_18 rfl rfl (zc_k134 zc_s134) (zc_pos zc_s134 rfl) (zc_g134_3 hσ_2 zc_s134) (by decide) ?_
              refine zr_iload_n (pc := 50) hV dX2_isUnlike_50 rfl rfl ?_
              refine zr_iald (pc := 51) hV dX2_isUnlike_51 (zc_k137 zc_s137) (zc_pos zc_s137 rfl) rfl (by omega) ?_
              have t11 := zc_ga137 hσ_2 zc_s137 x2_2
              have t12 : σ_2 137 x2_2 = σ 137 x2_2 := hFσ_2 _ _ (zc_out_ar zc_s137 rfl)
              show V 52 [some (ZR 134), some (ZI butFor), some (ZI x2_2), none] [ZI (σ_2 137 x2_2)] 284 σ_2
              refine zr_istore_n (pc := 52) hV [some (ZR 134), some (ZI butFor), some (ZI x2_2), some (ZI (σ_2 137 x2_2))] dX2_isUnlike_52 rfl (by decide) rfl rfl ?_
              refine zr_iload_n (pc := 53) hV dX2_isUnlike_53 rfl rfl ?_
              refine zr_aload_n (pc := 54) hV dX2_isUnlike_54 rfl rfl ?_
              refine zr_iload_n (pc := 55) hV dX2_isUnlike_55 rfl rfl ?_
              refine zr_callVi (pc := 56) hV [ZI x2_2] (st := [ZI (σ_2 137 x2_2)]) (c_X2_inSlot (σ := σ_2) hσ_2 x2_2 (by omega)) dX2_isUnlike_56 mX2_47 (zc_k134 zc_s134) (zc_pos zc_s134 rfl) (by decide) (Nat.le_of_ble_eq_true rfl) (Nat.le_refl _) (fun r56 σ56 hr56 pσ56 => ?_)
              obtain ⟨hσ56, hfσ56, pσ56⟩ := pσ56
              have hFσ56 := zc_Fc hfσ56 rfl hFσ_2
              refine zr_icmp_eq (pc := 59) hV 64 dX2_isUnlike_59 (by decide) (by omega) (by omega) (fun c13 => ?_) (fun c13 => ?_)
              · show V 64 [some (ZR 134), some (ZI butFor), some (ZI x2_2), some (ZI (σ_2 137 x2_2))] [] 284 σ56
                refine zr_iinc (pc := 64) hV [some (ZR 134), some (ZI butFor), some (ZI (x2_2 + 1)), some (ZI (σ_2 137 x2_2))] (x2_2 + 1) dX2_isUnlike_64 rfl rfl (by decide) rfl rfl ?_
                refine zr_goto (pc := 67) hV 2 dX2_isUnlike_67 (by decide) ?_
                refine zr_sub (pc := 2) hV [some (ZR 134), some (ZI butFor), some (ZI (x2_2 + 1)), none] (⟨rfl, rfl, rfl, trivial⟩) ?_
                exact ih2 (x2_2 + 1) σ56 (by omega) hσ56 hFσ56 (by omega)
              · show V 62 [some (ZR 134), some (ZI butFor), some (ZI x2_2), some (ZI (σ_2 137 x2_2))] [] 284 σ56
                refine zr_iconst (pc := 62) hV 1 dX2_isUnlike_62 rfl ?_
                exact zr_zret (pc := 63) hV dX2_isUnlike_63 rfl rfl (by omega) ⟨_, rfl, ⟨by decide, by decide⟩, hσ56, hFσ56, (by omega)⟩
            · show V 38 [some (ZR 134), some (ZI butFor), some (ZI x2_2), none] [] 284 σ_2
              refine zr_aload_n (pc := 38) hV dX2_isUnlike_38 rfl rfl ?_
              refine zr_iload_n (pc := 39) hV dX2_isUnlike_39 rfl rfl ?_
              refine zr_callVi (pc := 40) hV [ZI x2_2] (st := []) (c_X2_aheadIn (σ := σ_2) hσ_2 x2_2 (by omega)) dX2_isUnlike_40 mX2_41 (zc_k134 zc_s134) (zc_pos zc_s134 rfl) (by decide) (Nat.le_of_ble_eq_true rfl) (Nat.le_refl _) (fun r40 σ40 hr40 pσ40 => ?_)
              obtain ⟨hσ40, hfσ40, pσ40⟩ := pσ40
              have hFσ40 := zc_Fc hfσ40 rfl hFσ_2
              refine zr_goto (pc := 43) hV 52 dX2_isUnlike_43 (by decide) ?_
              show V 52 [some (ZR 134), some (ZI butFor), some (ZI x2_2), none] [ZI r40] 284 σ40
              refine zr_istore_n (pc := 52) hV [some (ZR 134), some (ZI butFor), some (ZI x2_2), some (ZI r40)] dX2_isUnlike_52 rfl (by decide) rfl rfl ?_
              refine zr_iload_n (pc := 53) hV dX2_isUnlike_53 rfl rfl ?_
              refine zr_aload_n (pc := 54) hV dX2_isUnlike_54 rfl rfl ?_
              refine zr_iload_n (pc := 55) hV dX2_isUnlike_55 rfl rfl ?_
              refine zr_callVi (pc := 56) hV [ZI x2_2] (st := [ZI r40]) (c_X2_inSlot (σ := σ40) hσ40 x2_2 (by omega)) dX2_isUnlike_56 mX2_47 (zc_k134 zc_s134) (zc_pos zc_s134 rfl) (by decide) (Nat.le_of_ble_eq_true rfl) (Nat.le_refl _) (fun r56 σ56 hr56 pσ56 => ?_)
              obtain ⟨hσ56, hfσ56, pσ56⟩ := pσ56
              have hFσ56 := zc_Fc hfσ56 rfl hFσ40
              refine zr_icmp_eq (pc := 59) hV 64 dX2_isUnlike_59 (by decide) (by omega) (by omega) (fun c14 => ?_) (fun c14 => ?_)
              · show V 64 [some (ZR 134), some (ZI butFor), some (ZI x2_2), some (ZI r40)] [] 284 σ56
                refine zr_iinc (pc := 64) hV [some (ZR 134), some (ZI butFor), some (ZI (x2_2 + 1)), some (ZI r40)] (x2_2 + 1) dX2_isUnlike_64 rfl rfl (by decide) rfl rfl ?_
                refine zr_goto (pc := 67) hV 2 dX2_isUnlike_67 (by decide) ?_
                refine zr_sub (pc := 2) hV [some (ZR 134), some (ZI butFor), some (ZI (x2_2 + 1)), none] (⟨rfl, rfl, rfl, trivial⟩) ?_
                exact ih2 (x2_2 + 1) σ56 (by omega) hσ56 hFσ56 (by omega)
              · show V 62 [some (ZR 134), some (ZI butFor), some (ZI x2_2), some (ZI r40)] [] 284 σ56
                refine zr_iconst (pc := 62) hV 1 dX2_isUnlike_62 rfl ?_
                exact zr_zret (pc := 63) hV dX2_isUnlike_63 rfl rfl (by omega) ⟨_, rfl, ⟨by decide, by decide⟩, hσ56, hFσ56, (by omega)⟩
  exact L2 (9 - (0 : Int) + 1 : Int).toNat 0 σ (by omega) hσ hFσ (by omega)
set_option maxHeartbeats 800000 in
theorem c_X2_leaveTheSame {σ : zq_S} (hσ : zc_T σ) (a : Int) (ka : zc_kd a = 4) (b : Int) (kb : zc_kd b = 4)  : zq_C zc_w yX2_leaveTheSame cX2_leaveTheSame 4 (some .boolean) 5 109 284 284 [ZR 134, ZR a, ZR b] σ (zq_pi (fun r τ => zc_T τ ∧ zc_Fr [(134, 5), (135, -1), (136, -1), (137, -1), (138, -1)] σ τ ∧ ((0 ≤ r ∧ r ≤ 1)))) := by
  refine zq_C_of (by decide) (Nat.le_refl _) (Nat.le_of_ble_eq_true rfl) [some (ZR 134), some (ZR a), some (ZR b), none] rfl (fun V hV => ?_)
  have poa := zc_pos ka rfl
  have pob := zc_pos kb rfl
  have hFσ := zc_Fr_rf [(134, 5), (135, -1), (136, -1), (137, -1), (138, -1)] σ
  show V 0 [some (ZR 134), some (ZR a), some (ZR b), none] [] 284 σ
  refine zr_aload_n (pc := 0) hV dX2_leaveTheSame_0 rfl rfl ?_
  refine zr_callVv (pc := 1) hV [] (st := []) (c_X2_startOver (σ := σ) hσ) dX2_leaveTheSame_1 mX2_69 (zc_k134 zc_s134) (zc_pos zc_s134 rfl) (by decide) (Nat.le_of_ble_eq_true rfl) (Nat.le_refl _) (fun σ1 pσ1 => ?_)
  obtain ⟨hσ1, hfσ1, pσ1⟩ := pσ1
  have hFσ1 := zc_Fc hfσ1 rfl hFσ
  refine zr_iconst (pc := 4) hV 0 dX2_leaveTheSame_4 rfl ?_
  refine zr_istore_n (pc := 5) hV [some (ZR 134), some (ZR a), some (ZR b), some (ZI 0)] dX2_leaveTheSame_5 rfl (by decide) rfl rfl ?_
  have L6 : ∀ (fuel : Nat) (x3_6 : Int) (σ_6 : zq_S), (0 ≤ x3_6 ∧ x3_6 ≤ 1000000) → (zc_T σ_6) → (zc_Fr [(134, 5), (135, -1), (136, -1), (137, -1), (138, -1)] σ σ_6) → 1000000 - x3_6 < (fuel : Int) → V 6 [some (ZR 134), some (ZR a), some (ZR b), some (ZI x3_6)] [] 284 σ_6 := by
    intro fuel
    induction fuel with
    | zero =>
      intro x3_6 σ_6 hx3_6 hσ_6 hFσ_6 hm6
      exfalso; omega
    | succ fuel ih =>
      intro x3_6 σ_6 hx3_6 hσ_6 hFσ_6 hm6
      have ih6 := ih
      show V 6 [some (ZR 134), some (ZR a), some (ZR b), some (ZI x3_6)] [] 284 σ_6
      refine zr_iload_n (pc := 6) hV dX2_leaveTheSame_6 rfl rfl ?_
      refine zr_ldc (pc := 7) (v := 1000000) hV 1000000 dX2_leaveTheSame_7 kX2_72 (by decide) ?_
      refine zr_icmp_ge (pc := 9) hV 63 dX2_leaveTheSame_9 (by decide) (by omega) ⟨by decide, by decide⟩ (fun c1 => ?_) (fun c1 => ?_)
      · show V 63 [some (ZR 134), some (ZR a), some (ZR b), some (ZI x3_6)] [] 284 σ_6
        refine zr_iconst (pc := 63) hV 1 dX2_leaveTheSame_63 rfl ?_
        exact zr_zret (pc := 64) hV dX2_leaveTheSame_64 rfl rfl (by omega) ⟨_, rfl, ⟨by decide, by decide⟩, hσ_6, hFσ_6, (by omega)⟩
      · show V 12 [some (ZR 134), some (ZR a), some (ZR b), some (ZI x3_6)] [] 284 σ_6
        refine zr_aload_n (pc := 12) hV dX2_leaveTheSame_12 rfl rfl ?_
        refine zr_aload_n (pc := 13) hV dX2_leaveTheSame_13 rfl rfl ?_
        refine zr_callVv (pc := 14) hV [ZR a] (st := []) (c_X2_doAfresh (σ := σ_6) hσ_6 a ka) dX2_leaveTheSame_14 mX2_100 (zc_k134 zc_s134) (zc_pos zc_s134 rfl) (by decide) (Nat.le_of_ble_eq_true rfl) (Nat.le_refl _) (fun σ14 pσ14 => ?_)
        obtain ⟨hσ14, hfσ14, pσ14⟩ := pσ14
        have hFσ14 := zc_Fc hfσ14 rfl hFσ_6
        refine zr_aload_n (pc := 17) hV dX2_leaveTheSame_17 rfl rfl ?_
        refine zr_getR (pc := 18) hV 2 136 dX2_leaveTheSame_18 fX2_15 rfl rfl (zc_k134 zc_s134) (zc_pos zc_s134 rfl) (zc_g134_2 hσ14 zc_s134) (by decide) ?_
        refine zr_iconst (pc := 21) hV 0 dX2_leaveTheSame_21 rfl ?_
        refine zr_aload_n (pc := 22) hV dX2_leaveTheSame_22 rfl rfl ?_
        refine zr_getR (pc := 23) hV 3 137 dX2_leaveTheSame_23 fX2_18 rfl rfl (zc_k134 zc_s134) (zc_pos zc_s134 rfl) (zc_g134_3 hσ14 zc_s134) (by decide) ?_
        refine zr_iconst (pc := 26) hV 0 dX2_leaveTheSame_26 rfl ?_
        refine zr_bipush (pc := 27) hV 9 dX2_leaveTheSame_27 (by decide) ?_
        refine zr_copy (pc := 29) hV dX2_leaveTheSame_29 lX2_80 lcp_nat lcp_stat lcp_ini (zc_k136 zc_s136) (zc_k137 zc_s137) (zc_pos zc_s136 rfl) (zc_pos zc_s137 rfl) rfl rfl (by omega) (by omega) (by omega) rfl rfl (fun σ29 eσ29 => ?_)
        have hσ29 : zc_T σ29 := zc_Tcell eσ29 hσ14 zc_s137 (fun i => by split; exact zc_ga136 hσ14 zc_s136 _; exact zc_ga137 hσ14 zc_s137 _)
        have hFσ29 := zc_Fcell eσ29 zc_s137 rfl hFσ14
        refine zr_aload_n (pc := 32) hV dX2_leaveTheSame_32 rfl rfl ?_
        refine zr_aload_n (pc := 33) hV dX2_leaveTheSame_33 rfl rfl ?_
        refine zr_callVv (pc := 34) hV [ZR b] (st := []) (c_X2_doAfresh (σ := σ29) hσ29 b kb) dX2_leaveTheSame_34 mX2_100 (zc_k134 zc_s134) (zc_pos zc_s134 rfl) (by decide) (Nat.le_of_ble_eq_true rfl) (Nat.le_refl _) (fun σ34 pσ34 => ?_)
        obtain ⟨hσ34, hfσ34, pσ34⟩ := pσ34
        have hFσ34 := zc_Fc hfσ34 rfl hFσ29
        refine zr_aload_n (pc := 37) hV dX2_leaveTheSame_37 rfl rfl ?_
        refine zr_bipush (pc := 38) hV 9 dX2_leaveTheSame_38 (by decide) ?_
        refine zr_callVi (pc := 40) hV [ZI 9] (st := []) (c_X2_isUnlike (σ := σ34) hσ34 9 (by omega)) dX2_leaveTheSame_40 mX2_86 (zc_k134 zc_s134) (zc_pos zc_s134 rfl) (by decide) (Nat.le_of_ble_eq_true rfl) (Nat.le_refl _) (fun r40 σ40 hr40 pσ40 => ?_)
        obtain ⟨hσ40, hfσ40, pσ40⟩ := pσ40
        have hFσ40 := zc_Fc hfσ40 rfl hFσ34
        refine zr_if_eq (pc := 43) hV 48 dX2_leaveTheSame_43 (by decide) (by omega) (fun c2 => ?_) (fun c2 => ?_)
        · show V 48 [some (ZR 134), some (ZR a), some (ZR b), some (ZI x3_6)] [] 284 σ40
          refine zr_aload_n (pc := 48) hV dX2_leaveTheSame_48 rfl rfl ?_
          refine zr_callVi (pc := 49) hV [] (st := []) (c_X2_goToNext (σ := σ40) hσ40) dX2_leaveTheSame_49 mX2_76 (zc_k134 zc_s134) (zc_pos zc_s134 rfl) (by decide) (Nat.le_of_ble_eq_true rfl) (Nat.le_refl _) (fun r49 σ49 hr49 pσ49 => ?_)
          obtain ⟨hσ49, hfσ49, pσ49⟩ := pσ49
          have hFσ49 := zc_Fc hfσ49 rfl hFσ40
          refine zr_if_ne (pc := 52) hV 57 dX2_leaveTheSame_52 (by decide) (by omega) (fun c3 => ?_) (fun c3 => ?_)
          · show V 57 [some (ZR 134), some (ZR a), some (ZR b), some (ZI x3_6)] [] 284 σ49
            refine zr_iinc (pc := 57) hV [some (ZR 134), some (ZR a), some (ZR b), some (ZI (x3_6 + 1))] (x3_6 + 1) dX2_leaveTheSame_57 rfl rfl (by decide) rfl rfl ?_
            refine zr_goto (pc := 60) hV 6 dX2_leaveTheSame_60 (by decide) ?_
            exact ih6 (x3_6 + 1) σ49 (by omega) hσ49 hFσ49 (by omega)
          · show V 55 [some (ZR 134), some (ZR a), some (ZR b), some (ZI x3_6)] [] 284 σ49
            refine zr_iconst (pc := 55) hV 1 dX2_leaveTheSame_55 rfl ?_
            exact zr_zret (pc := 56) hV dX2_leaveTheSame_56 rfl rfl (by omega) ⟨_, rfl, ⟨by decide, by decide⟩, hσ49, hFσ49, (by omega)⟩
        · show V 46 [some (ZR 134), some (ZR a), some (ZR b), some (ZI x3_6)] [] 284 σ40
          refine zr_iconst (pc := 46) hV 0 dX2_leaveTheSame_46 rfl ?_
          exact zr_zret (pc := 47) hV dX2_leaveTheSame_47 rfl rfl (by omega) ⟨_, rfl, ⟨by decide, by decide⟩, hσ40, hFσ40, (by omega)⟩
  exact L6 (1000000 - (0 : Int) + 1 : Int).toNat 0 σ1 (by omega) hσ1 hFσ1 (by omega)

