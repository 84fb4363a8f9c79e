set_option maxHeartbeats 800000 in
theorem c_X5_isSheet {σ : zq_S} (sheet : Int) (q0 : zq_in sheet) : zq_C zc_w yX5_isSheet cX5_isSheet 1 (some .boolean) 0 0 284 284 [ZI sheet] σ (zq_pp σ (fun r => (0 ≤ r ∧ r ≤ 1) ∧ (r = 1 ↔ 0 ≤ sheet ∧ sheet ≤ 3))) := by
  refine zq_C_of (by decide) (Nat.le_refl _) (Nat.le_of_ble_eq_true rfl) [some (ZI sheet)] rfl (fun V hV => ?_)
  show V 0 [some (ZI sheet)] [] 284 σ
  refine zr_iload_n (pc := 0) hV dX5_isSheet_0 rfl rfl ?_
  refine zr_if_lt (pc := 1) hV 13 dX5_isSheet_1 (by decide) (by omega) (fun c1 => ?_) (fun c1 => ?_)
  · show V 13 [some (ZI sheet)] [] 284 σ
    refine zr_iconst (pc := 13) hV 0 dX5_isSheet_13 rfl ?_
    show V 14 [some (ZI sheet)] [ZI 0] 284 σ
    exact zr_zret (pc := 14) hV dX5_isSheet_14 rfl rfl (by omega) ⟨rfl, _, rfl, ⟨by decide, by decide⟩, (by omega)⟩
  · show V 4 [some (ZI sheet)] [] 284 σ
    refine zr_iload_n (pc := 4) hV dX5_isSheet_4 rfl rfl ?_
    refine zr_iconst (pc := 5) hV 4 dX5_isSheet_5 rfl ?_
    refine zr_icmp_ge (pc := 6) hV 13 dX5_isSheet_6 (by decide) (by omega) ⟨by decide, by decide⟩ (fun c2 => ?_) (fun c2 => ?_)
    · show V 13 [some (ZI sheet)] [] 284 σ
      refine zr_iconst (pc := 13) hV 0 dX5_isSheet_13 rfl ?_
      show V 14 [some (ZI sheet)] [ZI 0] 284 σ
      exact zr_zret (pc := 14) hV dX5_isSheet_14 rfl rfl (by omega) ⟨rfl, _, rfl, ⟨by decide, by decide⟩, (by omega)⟩
    · show V 9 [some (ZI sheet)] [] 284 σ
      refine zr_iconst (pc := 9) hV 1 dX5_isSheet_9 rfl ?_
      refine zr_goto (pc := 10) hV 14 dX5_isSheet_10 (by decide) ?_
      show V 14 [some (ZI sheet)] [ZI 1] 284 σ
      exact zr_zret (pc := 14) hV dX5_isSheet_14 rfl rfl (by omega) ⟨rfl, _, rfl, ⟨by decide, by decide⟩, (by omega)⟩
set_option maxHeartbeats 800000 in
theorem c_X5_isLane {σ : zq_S} (lane : Int) (q0 : zq_in lane) : zq_C zc_w yX5_isLane cX5_isLane 1 (some .boolean) 0 0 284 284 [ZI lane] σ (zq_pp σ (fun r => (0 ≤ r ∧ r ≤ 1) ∧ (r = 1 ↔ 0 ≤ lane ∧ lane ≤ 2))) := by
  refine zq_C_of (by decide) (Nat.le_refl _) (Nat.le_of_ble_eq_true rfl) [some (ZI lane)] rfl (fun V hV => ?_)
  show V 0 [some (ZI lane)] [] 284 σ
  refine zr_iload_n (pc := 0) hV dX5_isLane_0 rfl rfl ?_
  refine zr_if_lt (pc := 1) hV 13 dX5_isLane_1 (by decide) (by omega) (fun c1 => ?_) (fun c1 => ?_)
  · show V 13 [some (ZI lane)] [] 284 σ
    refine zr_iconst (pc := 13) hV 0 dX5_isLane_13 rfl ?_
    show V 14 [some (ZI lane)] [ZI 0] 284 σ
    exact zr_zret (pc := 14) hV dX5_isLane_14 rfl rfl (by omega) ⟨rfl, _, rfl, ⟨by decide, by decide⟩, (by omega)⟩
  · show V 4 [some (ZI lane)] [] 284 σ
    refine zr_iload_n (pc := 4) hV dX5_isLane_4 rfl rfl ?_
    refine zr_iconst (pc := 5) hV 2 dX5_isLane_5 rfl ?_
    refine zr_icmp_gt (pc := 6) hV 13 dX5_isLane_6 (by decide) (by omega) ⟨by decide, by decide⟩ (fun c2 => ?_) (fun c2 => ?_)
    · show V 13 [some (ZI lane)] [] 284 σ
      refine zr_iconst (pc := 13) hV 0 dX5_isLane_13 rfl ?_
      show V 14 [some (ZI lane)] [ZI 0] 284 σ
      exact zr_zret (pc := 14) hV dX5_isLane_14 rfl rfl (by omega) ⟨rfl, _, rfl, ⟨by decide, by decide⟩, (by omega)⟩
    · show V 9 [some (ZI lane)] [] 284 σ
      refine zr_iconst (pc := 9) hV 1 dX5_isLane_9 rfl ?_
      refine zr_goto (pc := 10) hV 14 dX5_isLane_10 (by decide) ?_
      show V 14 [some (ZI lane)] [ZI 1] 284 σ
      exact zr_zret (pc := 14) hV dX5_isLane_14 rfl rfl (by omega) ⟨rfl, _, rfl, ⟨by decide, by decide⟩, (by omega)⟩
set_option maxHeartbeats 800000 in
theorem c_X5_refusal {σ : zq_S} (hσ : zc_T σ) (sheet : Int) (lane : Int) (from_ : Int) (n : Int) (q0 : 0 ≤ sheet ∧ sheet ≤ 3) (q1 : zq_in lane) (q2 : zq_in from_) (q3 : 0 ≤ n ∧ n ≤ 30) : zq_C zc_w yX5_refusal cX5_refusal 5 (some .int) 0 0 284 284 [ZR 276, ZI sheet, ZI lane, ZI from_, ZI n] σ (zq_pp σ (fun r => (0 ≤ r → r = 0 ∧ 0 ≤ from_ ∧ from_ + n ≤ σ 278 sheet ∧ σ 278 sheet ≤ 30))) := by
  refine zq_C_of (by decide) (Nat.le_refl _) (Nat.le_of_ble_eq_true rfl) [some (ZR 276), some (ZI sheet), some (ZI lane), some (ZI from_), some (ZI n)] rfl (fun V hV => ?_)
  show V 0 [some (ZR 276), some (ZI sheet), some (ZI lane), some (ZI from_), some (ZI n)] [] 284 σ
  refine zr_aload_n (pc := 0) hV dX5_refusal_0 rfl rfl ?_
  refine zr_getR (pc := 1) hV 0 277 dX5_refusal_1 fX5_11 rfl rfl (zc_k276 zc_s276) (zc_pos zc_s276 rfl) (zc_g276_0 hσ zc_s276) (by decide) ?_
  refine zr_iload_n (pc := 4) hV dX5_refusal_4 rfl rfl ?_
  refine zr_iald (pc := 5) hV dX5_refusal_5 (zc_k277 zc_s277) (zc_pos zc_s277 rfl) rfl (by omega) ?_
  have t1 := zc_ga277 hσ zc_s277 sheet
  refine zr_iconst (pc := 6) hV (-1) dX5_refusal_6 rfl ?_
  refine zr_icmp_ne (pc := 7) hV 13 dX5_refusal_7 (by decide) (by omega) ⟨by decide, by decide⟩ (fun c2 => ?_) (fun c2 => ?_)
  · show V 13 [some (ZR 276), some (ZI sheet), some (ZI lane), some (ZI from_), some (ZI n)] [] 284 σ
    refine zr_aload_n (pc := 13) hV dX5_refusal_13 rfl rfl ?_
    refine zr_getR (pc := 14) hV 0 277 dX5_refusal_14 fX5_11 rfl rfl (zc_k276 zc_s276) (zc_pos zc_s276 rfl) (zc_g276_0 hσ zc_s276) (by decide) ?_
    refine zr_iload_n (pc := 17) hV dX5_refusal_17 rfl rfl ?_
    refine zr_iald (pc := 18) hV dX5_refusal_18 (zc_k277 zc_s277) (zc_pos zc_s277 rfl) rfl (by omega) ?_
    have t3 := zc_ga277 hσ zc_s277 sheet
    refine zr_iload_n (pc := 19) hV dX5_refusal_19 rfl rfl ?_
    refine zr_icmp_eq (pc := 20) hV 26 dX5_refusal_20 (by decide) (by omega) (by omega) (fun c4 => ?_) (fun c4 => ?_)
    · show V 26 [some (ZR 276), some (ZI sheet), some (ZI lane), some (ZI from_), some (ZI n)] [] 284 σ
      refine zr_iload_n (pc := 26) hV dX5_refusal_26 rfl rfl ?_
      refine zr_if_lt (pc := 27) hV 43 dX5_refusal_27 (by decide) (by omega) (fun c5 => ?_) (fun c5 => ?_)
      · show V 43 [some (ZR 276), some (ZI sheet), some (ZI lane), some (ZI from_), some (ZI n)] [] 284 σ
        refine zr_bipush (pc := 43) hV (-13) dX5_refusal_43 (by decide) ?_
        refine zr_goto (pc := 45) hV 49 dX5_refusal_45 (by decide) ?_
        show V 49 [some (ZR 276), some (ZI sheet), some (ZI lane), some (ZI from_), some (ZI n)] [ZI (-13)] 284 σ
        exact zr_iret (pc := 49) hV dX5_refusal_49 rfl rfl ⟨rfl, _, rfl, ⟨by decide, by decide⟩, (by omega)⟩
      · show V 30 [some (ZR 276), some (ZI sheet), some (ZI lane), some (ZI from_), some (ZI n)] [] 284 σ
        refine zr_iload_n (pc := 30) hV dX5_refusal_30 rfl rfl ?_
        refine zr_aload_n (pc := 31) hV dX5_refusal_31 rfl rfl ?_
        refine zr_getR (pc := 32) hV 1 278 dX5_refusal_32 fX5_15 rfl rfl (zc_k276 zc_s276) (zc_pos zc_s276 rfl) (zc_g276_1 hσ zc_s276) (by decide) ?_
        refine zr_iload_n (pc := 35) hV dX5_refusal_35 rfl rfl ?_
        refine zr_iald (pc := 36) hV dX5_refusal_36 (zc_k278 zc_s278) (zc_pos zc_s278 rfl) rfl (by omega) ?_
        have t6 := zc_ga278 hσ zc_s278 sheet
        refine zr_iload (pc := 37) hV dX5_refusal_37 rfl ?_
        refine zr_isub (pc := 39) hV dX5_refusal_39 ?_
        refine zr_icmp_le (pc := 40) hV 48 dX5_refusal_40 (by decide) (by omega) (by omega) (fun c7 => ?_) (fun c7 => ?_)
        · show V 48 [some (ZR 276), some (ZI sheet), some (ZI lane), some (ZI from_), some (ZI n)] [] 284 σ
          refine zr_iconst (pc := 48) hV 0 dX5_refusal_48 rfl ?_
          show V 49 [some (ZR 276), some (ZI sheet), some (ZI lane), some (ZI from_), some (ZI n)] [ZI 0] 284 σ
          exact zr_iret (pc := 49) hV dX5_refusal_49 rfl rfl ⟨rfl, _, rfl, ⟨by decide, by decide⟩, (by omega)⟩
        · show V 43 [some (ZR 276), some (ZI sheet), some (ZI lane), some (ZI from_), some (ZI n)] [] 284 σ
          refine zr_bipush (pc := 43) hV (-13) dX5_refusal_43 (by decide) ?_
          refine zr_goto (pc := 45) hV 49 dX5_refusal_45 (by decide) ?_
          show V 49 [some (ZR 276), some (ZI sheet), some (ZI lane), some (ZI from_), some (ZI n)] [ZI (-13)] 284 σ
          exact zr_iret (pc := 49) hV dX5_refusal_49 rfl rfl ⟨rfl, _, rfl, ⟨by decide, by decide⟩, (by omega)⟩
    · show V 23 [some (ZR 276), some (ZI sheet), some (ZI lane), some (ZI from_), some (ZI n)] [] 284 σ
      refine zr_bipush (pc := 23) hV (-12) dX5_refusal_23 (by decide) ?_
      exact zr_iret (pc := 25) hV dX5_refusal_25 rfl rfl ⟨rfl, _, rfl, ⟨by decide, by decide⟩, (by omega)⟩
  · show V 10 [some (ZR 276), some (ZI sheet), some (ZI lane), some (ZI from_), some (ZI n)] [] 284 σ
    refine zr_bipush (pc := 10) hV (-11) dX5_refusal_10 (by decide) ?_
    exact zr_iret (pc := 12) hV dX5_refusal_12 rfl rfl ⟨rfl, _, rfl, ⟨by decide, by decide⟩, (by omega)⟩
set_option maxHeartbeats 800000 in
theorem c_X5_lay {σ : zq_S} (hσ : zc_T σ) (sheet : Int) (lane : Int) (n : Int) (q0 : 0 ≤ sheet ∧ sheet ≤ 3) (q1 : 0 ≤ lane ∧ lane ≤ 2) (q2 : 0 ≤ n ∧ n ≤ 30) : zq_C zc_w yX5_lay cX5_lay 4 (some .int) 1 23 284 284 [ZR 276, ZI sheet, ZI lane, ZI n] σ (zq_pi (fun r τ => zc_T τ ∧ zc_Fr [(277, -1), (278, -1), (280, -1)] σ τ ∧ (True))) := by
  refine zq_C_of (by decide) (Nat.le_refl _) (Nat.le_of_ble_eq_true rfl) [some (ZR 276), some (ZI sheet), some (ZI lane), some (ZI n)] rfl (fun V hV => ?_)
  have hFσ := zc_Fr_rf [(277, -1), (278, -1), (280, -1)] σ
  show V 0 [some (ZR 276), some (ZI sheet), some (ZI lane), some (ZI n)] [] 284 σ
  refine zr_aload_n (pc := 0) hV dX5_lay_0 rfl rfl ?_
  refine zr_getR (pc := 1) hV 0 277 dX5_lay_1 fX5_11 rfl rfl (zc_k276 zc_s276) (zc_pos zc_s276 rfl) (zc_g276_0 hσ zc_s276) (by decide) ?_
  refine zr_iload_n (pc := 4) hV dX5_lay_4 rfl rfl ?_
  refine zr_iload_n (pc := 5) hV dX5_lay_5 rfl rfl ?_
  refine zr_iast (pc := 6) hV dX5_lay_6 (zc_k277 zc_s277) (zc_pos zc_s277 rfl) rfl (by omega) (fun σ6 eσ6 => ?_)
  have hσ6 : zc_T σ6 := zc_ua277 eσ6 hσ zc_s277 (by omega)
  have hFσ6 := zc_Fa eσ6 zc_s277 rfl hFσ
  refine zr_aload_n (pc := 7) hV dX5_lay_7 rfl rfl ?_
  refine zr_getR (pc := 8) hV 1 278 dX5_lay_8 fX5_15 rfl rfl (zc_k276 zc_s276) (zc_pos zc_s276 rfl) (zc_g276_1 hσ6 zc_s276) (by decide) ?_
  refine zr_iload_n (pc := 11) hV dX5_lay_11 rfl rfl ?_
  refine zr_iload_n (pc := 12) hV dX5_lay_12 rfl rfl ?_
  refine zr_iast (pc := 13) hV dX5_lay_13 (zc_k278 zc_s278) (zc_pos zc_s278 rfl) rfl (by omega) (fun σ13 eσ13 => ?_)
  have hσ13 : zc_T σ13 := zc_ua278 eσ13 hσ6 zc_s278 (by omega)
  have hFσ13 := zc_Fa eσ13 zc_s278 rfl hFσ6
  refine zr_aload_n (pc := 14) hV dX5_lay_14 rfl rfl ?_
  refine zr_getR (pc := 15) hV 2 279 dX5_lay_15 fX5_20 rfl rfl (zc_k276 zc_s276) (zc_pos zc_s276 rfl) (zc_g276_2 hσ13 zc_s276) (by decide) ?_
  refine zr_iload_n (pc := 18) hV dX5_lay_18 rfl rfl ?_
  have ga19 : σ13 279 sheet = 280 + sheet := zc_ga279 hσ13 zc_s279 sheet (by omega) (by omega)
  refine zr_aald (pc := 19) hV dX5_lay_19 (zc_k279 zc_s279) (Or.inr rfl) (zc_pos zc_s279 rfl) rfl (by omega) (by omega) ?_
  obtain ⟨o19, eo19⟩ : ∃ o, σ13 279 sheet = o := ⟨_, rfl⟩
  rw [eo19] at ga19 ⊢
  have ko19 : zc_kd o19 = 280 := ga19 ▸ zc_e280 (by omega) (by omega)
  have po19 := zc_pos ko19 rfl
  show V 20 [some (ZR 276), some (ZI sheet), some (ZI lane), some (ZI n)] [ZR o19] 284 σ13
  refine zr_iconst (pc := 20) hV 0 dX5_lay_20 rfl ?_
  refine zr_callSv (pc := 21) hV [ZR o19, ZI 0] (st := []) (c_fill (σ := σ13) hσ13 o19 0 ko19 rfl rfl ⟨by decide, by decide⟩ (fun _ => ⟨by omega, by omega⟩)) dX5_lay_21 mX5_23 (by decide) (Nat.le_of_ble_eq_true rfl) (Nat.le_refl _) (fun σ21 pσ21 => ?_)
  obtain ⟨hσ21, hfσ21, pσ21⟩ := pσ21
  have hFσ21 := zc_Fc hfσ21 rfl hFσ13
  refine zr_iload_n (pc := 24) hV dX5_lay_24 rfl rfl ?_
  exact zr_iret (pc := 25) hV dX5_lay_25 rfl rfl ⟨_, rfl, (by omega), hσ21, hFσ21, trivial⟩
set_option maxHeartbeats 800000 in
theorem c_X5_takeAway {σ : zq_S} (hσ : zc_T σ) (sheet : Int) (q0 : 0 ≤ sheet ∧ sheet ≤ 3) : zq_C zc_w yX5_takeAway cX5_takeAway 2 (some .int) 0 0 284 284 [ZR 276, ZI sheet] σ (zq_pi (fun r τ => zc_T τ ∧ zc_Fr [(277, -1)] σ τ ∧ (True))) := by
  refine zq_C_of (by decide) (Nat.le_refl _) (Nat.le_of_ble_eq_true rfl) [some (ZR 276), some (ZI sheet)] rfl (fun V hV => ?_)
  have hFσ := zc_Fr_rf [(277, -1)] σ
  show V 0 [some (ZR 276), some (ZI sheet)] [] 284 σ
  refine zr_aload_n (pc := 0) hV dX5_takeAway_0 rfl rfl ?_
  refine zr_getR (pc := 1) hV 0 277 dX5_takeAway_1 fX5_11 rfl rfl (zc_k276 zc_s276) (zc_pos zc_s276 rfl) (zc_g276_0 hσ zc_s276) (by decide) ?_
  refine zr_iload_n (pc := 4) hV dX5_takeAway_4 rfl rfl ?_
  refine zr_iald (pc := 5) hV dX5_takeAway_5 (zc_k277 zc_s277) (zc_pos zc_s277 rfl) rfl (by omega) ?_
  have t1 := zc_ga277 hσ zc_s277 sheet
  refine zr_iconst (pc := 6) hV (-1) dX5_takeAway_6 rfl ?_
  refine zr_icmp_ne (pc := 7) hV 13 dX5_takeAway_7 (by decide) (by omega) ⟨by decide, by decide⟩ (fun c2 => ?_) (fun c2 => ?_)
  · show V 13 [some (ZR 276), some (ZI sheet)] [] 284 σ
    refine zr_aload_n (pc := 13) hV dX5_takeAway_13 rfl rfl ?_
    refine zr_getR (pc := 14) hV 0 277 dX5_takeAway_14 fX5_11 rfl rfl (zc_k276 zc_s276) (zc_pos zc_s276 rfl) (zc_g276_0 hσ zc_s276) (by decide) ?_
    refine zr_iload_n (pc := 17) hV dX5_takeAway_17 rfl rfl ?_
    refine zr_iconst (pc := 18) hV (-1) dX5_takeAway_18 rfl ?_
    refine zr_iast (pc := 19) hV dX5_takeAway_19 (zc_k277 zc_s277) (zc_pos zc_s277 rfl) rfl (by omega) (fun σ19 eσ19 => ?_)
    have hσ19 : zc_T σ19 := zc_ua277 eσ19 hσ zc_s277 (by omega)
    have hFσ19 := zc_Fa eσ19 zc_s277 rfl hFσ
    refine zr_aload_n (pc := 20) hV dX5_takeAway_20 rfl rfl ?_
    refine zr_getR (pc := 21) hV 1 278 dX5_takeAway_21 fX5_15 rfl rfl (zc_k276 zc_s276) (zc_pos zc_s276 rfl) (zc_g276_1 hσ19 zc_s276) (by decide) ?_
    refine zr_iload_n (pc := 24) hV dX5_takeAway_24 rfl rfl ?_
    refine zr_iald (pc := 25) hV dX5_takeAway_25 (zc_k278 zc_s278) (zc_pos zc_s278 rfl) rfl (by omega) ?_
    have t3 := zc_ga278 hσ19 zc_s278 sheet
    have t4 : σ19 278 sheet = σ 278 sheet := by rw [eσ19]; exact zq_up_ne (zc_dk zc_s278 zc_s277 rfl)
    exact zr_iret (pc := 26) hV dX5_takeAway_26 rfl rfl ⟨_, rfl, (by omega), hσ19, hFσ19, trivial⟩
  · show V 10 [some (ZR 276), some (ZI sheet)] [] 284 σ
    refine zr_bipush (pc := 10) hV (-11) dX5_takeAway_10 (by decide) ?_
    exact zr_iret (pc := 12) hV dX5_takeAway_12 rfl rfl ⟨_, rfl, ⟨by decide, by decide⟩, hσ, hFσ, trivial⟩
set_option maxHeartbeats 800000 in
theorem c_X5_write {σ : zq_S} (hσ : zc_T σ) (sheet : Int) (i : Int) (v : Int) (q0 : 0 ≤ sheet ∧ sheet ≤ 3) (q1 : 0 ≤ i ∧ i ≤ 29) (q2 : zq_in v) : zq_C zc_w yX5_write cX5_write 4 (some .int) 0 0 284 284 [ZR 276, ZI sheet, ZI i, ZI v] σ (zq_pi (fun r τ => zc_T τ ∧ zc_Fr [(280, -1)] σ τ ∧ (True))) := by
  refine zq_C_of (by decide) (Nat.le_refl _) (Nat.le_of_ble_eq_true rfl) [some (ZR 276), some (ZI sheet), some (ZI i), some (ZI v)] rfl (fun V hV => ?_)
  have hFσ := zc_Fr_rf [(280, -1)] σ
  show V 0 [some (ZR 276), some (ZI sheet), some (ZI i), some (ZI v)] [] 284 σ
  refine zr_aload_n (pc := 0) hV dX5_write_0 rfl rfl ?_
  refine zr_getR (pc := 1) hV 0 277 dX5_write_1 fX5_11 rfl rfl (zc_k276 zc_s276) (zc_pos zc_s276 rfl) (zc_g276_0 hσ zc_s276) (by decide) ?_
  refine zr_iload_n (pc := 4) hV dX5_write_4 rfl rfl ?_
  refine zr_iald (pc := 5) hV dX5_write_5 (zc_k277 zc_s277) (zc_pos zc_s277 rfl) rfl (by omega) ?_
  have t1 := zc_ga277 hσ zc_s277 sheet
  by_cases c2 : σ 277 sheet = 0
  · refine zr_eqI (V := V) 0 c2 ?_
    refine zr_lookup (pc := 6) hV 32 dX5_write_6 ⟨by decide, by decide⟩ (by decide) rfl (by decide) ?_
    show V 32 [some (ZR 276), some (ZI sheet), some (ZI i), some (ZI v)] [] 284 σ
    refine zr_aload_n (pc := 32) hV dX5_write_32 rfl rfl ?_
    refine zr_getR (pc := 33) hV 2 279 dX5_write_33 fX5_20 rfl rfl (zc_k276 zc_s276) (zc_pos zc_s276 rfl) (zc_g276_2 hσ zc_s276) (by decide) ?_
    refine zr_iload_n (pc := 36) hV dX5_write_36 rfl rfl ?_
    have ga37 : σ 279 sheet = 280 + sheet := zc_ga279 hσ zc_s279 sheet (by omega) (by omega)
    refine zr_aald (pc := 37) hV dX5_write_37 (zc_k279 zc_s279) (Or.inr rfl) (zc_pos zc_s279 rfl) rfl (by omega) (by omega) ?_
    obtain ⟨o37, eo37⟩ : ∃ o, σ 279 sheet = o := ⟨_, rfl⟩
    rw [eo37] at ga37 ⊢
    have ko37 : zc_kd o37 = 280 := ga37 ▸ zc_e280 (by omega) (by omega)
    have po37 := zc_pos ko37 rfl
    show V 38 [some (ZR 276), some (ZI sheet), some (ZI i), some (ZI v)] [ZR o37] 284 σ
    refine zr_iload_n (pc := 38) hV dX5_write_38 rfl rfl ?_
    refine zr_iload_n (pc := 39) hV dX5_write_39 rfl rfl ?_
    refine zr_i2b (pc := 40) hV dX5_write_40 ?_
    have t3 := zq_byte_in v
    refine zr_iast (pc := 41) hV dX5_write_41 (zc_k280 ko37) (zc_pos ko37 rfl) rfl (by omega) (fun σ41 eσ41 => ?_)
    have hσ41 : zc_T σ41 := zc_ua280 eσ41 hσ ko37 (by omega)
    have hFσ41 := zc_Fa eσ41 ko37 rfl hFσ
    refine zr_goto (pc := 42) hV 67 dX5_write_42 (by decide) ?_
    show V 67 [some (ZR 276), some (ZI sheet), some (ZI i), some (ZI v)] [] 284 σ41
    refine zr_iconst (pc := 67) hV 1 dX5_write_67 rfl ?_
    exact zr_iret (pc := 68) hV dX5_write_68 rfl rfl ⟨_, rfl, ⟨by decide, by decide⟩, hσ41, hFσ41, trivial⟩
  by_cases c4 : σ 277 sheet = 1
  · refine zr_eqI (V := V) 1 c4 ?_
    refine zr_lookup (pc := 6) hV 45 dX5_write_6 ⟨by decide, by decide⟩ (by decide) rfl (by decide) ?_
    show V 45 [some (ZR 276), some (ZI sheet), some (ZI i), some (ZI v)] [] 284 σ
    refine zr_aload_n (pc := 45) hV dX5_write_45 rfl rfl ?_
    refine zr_getR (pc := 46) hV 2 279 dX5_write_46 fX5_20 rfl rfl (zc_k276 zc_s276) (zc_pos zc_s276 rfl) (zc_g276_2 hσ zc_s276) (by decide) ?_
    refine zr_iload_n (pc := 49) hV dX5_write_49 rfl rfl ?_
    have ga50 : σ 279 sheet = 280 + sheet := zc_ga279 hσ zc_s279 sheet (by omega) (by omega)
    refine zr_aald (pc := 50) hV dX5_write_50 (zc_k279 zc_s279) (Or.inr rfl) (zc_pos zc_s279 rfl) rfl (by omega) (by omega) ?_
    obtain ⟨o50, eo50⟩ : ∃ o, σ 279 sheet = o := ⟨_, rfl⟩
    rw [eo50] at ga50 ⊢
    have ko50 : zc_kd o50 = 280 := ga50 ▸ zc_e280 (by omega) (by omega)
    have po50 := zc_pos ko50 rfl
    show V 51 [some (ZR 276), some (ZI sheet), some (ZI i), some (ZI v)] [ZR o50] 284 σ
    refine zr_iload_n (pc := 51) hV dX5_write_51 rfl rfl ?_
    refine zr_iload_n (pc := 52) hV dX5_write_52 rfl rfl ?_
    refine zr_i2s (pc := 53) hV dX5_write_53 ?_
    have t5 := zq_short_in v
    refine zr_iast (pc := 54) hV dX5_write_54 (zc_k280 ko50) (zc_pos ko50 rfl) rfl (by omega) (fun σ54 eσ54 => ?_)
    have hσ54 : zc_T σ54 := zc_ua280 eσ54 hσ ko50 (by omega)
    have hFσ54 := zc_Fa eσ54 ko50 rfl hFσ
    refine zr_goto (pc := 55) hV 67 dX5_write_55 (by decide) ?_
    show V 67 [some (ZR 276), some (ZI sheet), some (ZI i), some (ZI v)] [] 284 σ54
    refine zr_iconst (pc := 67) hV 1 dX5_write_67 rfl ?_
    exact zr_iret (pc := 68) hV dX5_write_68 rfl rfl ⟨_, rfl, ⟨by decide, by decide⟩, hσ54, hFσ54, trivial⟩
  refine zr_lookup (pc := 6) (off := 52) hV 58 dX5_write_6 (by omega) (by decide) (by simp only [Op.lookupswitch.offset]; repeat (split <;> try omega)) (by decide) ?_
  show V 58 [some (ZR 276), some (ZI sheet), some (ZI i), some (ZI v)] [] 284 σ
  refine zr_aload_n (pc := 58) hV dX5_write_58 rfl rfl ?_
  refine zr_getR (pc := 59) hV 2 279 dX5_write_59 fX5_20 rfl rfl (zc_k276 zc_s276) (zc_pos zc_s276 rfl) (zc_g276_2 hσ zc_s276) (by decide) ?_
  refine zr_iload_n (pc := 62) hV dX5_write_62 rfl rfl ?_
  have ga63 : σ 279 sheet = 280 + sheet := zc_ga279 hσ zc_s279 sheet (by omega) (by omega)
  refine zr_aald (pc := 63) hV dX5_write_63 (zc_k279 zc_s279) (Or.inr rfl) (zc_pos zc_s279 rfl) rfl (by omega) (by omega) ?_
  obtain ⟨o63, eo63⟩ : ∃ o, σ 279 sheet = o := ⟨_, rfl⟩
  rw [eo63] at ga63 ⊢
  have ko63 : zc_kd o63 = 280 := ga63 ▸ zc_e280 (by omega) (by omega)
  have po63 := zc_pos ko63 rfl
  show V 64 [some (ZR 276), some (ZI sheet), some (ZI i), some (ZI v)] [ZR o63] 284 σ
  refine zr_iload_n (pc := 64) hV dX5_write_64 rfl rfl ?_
  refine zr_iload_n (pc := 65) hV dX5_write_65 rfl rfl ?_
  refine zr_iast (pc := 66) hV dX5_write_66 (zc_k280 ko63) (zc_pos ko63 rfl) rfl (by omega) (fun σ66 eσ66 => ?_)
  have hσ66 : zc_T σ66 := zc_ua280 eσ66 hσ ko63 (by omega)
  have hFσ66 := zc_Fa eσ66 ko63 rfl hFσ
  show V 67 [some (ZR 276), some (ZI sheet), some (ZI i), some (ZI v)] [] 284 σ66
  refine zr_iconst (pc := 67) hV 1 dX5_write_67 rfl ?_
  exact zr_iret (pc := 68) hV dX5_write_68 rfl rfl ⟨_, rfl, ⟨by decide, by decide⟩, hσ66, hFσ66, trivial⟩
