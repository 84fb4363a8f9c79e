set_option maxHeartbeats 800000 in
theorem c_X5_isSheet {σ : zq_S} (sheet : Int) (q0 : zq_in sheet) : zq_C zc_w yX5_isSheet cX5_isSheet 1 (some .boolean) 0 0 284 284 [ZI sheet] σ (zq_pp σ (fun r => (0 ≤ r ∧ r ≤ 1) ∧ (r = 1 ↔ 0 ≤ sheet ∧ sheet ≤ 3))) := by
  refine zq_C_of (by decide) (Nat.le_refl _) (Nat.le_of_ble_eq_true rfl) [some (ZI sheet)] rfl (fun V hV => ?_)
  show V 0 [some (ZI sheet)] [] 284 σ
  refine zr_iload_n (pc := 0) hV dX5_isSheet_0 rfl rfl ?_
  refine zr_if_lt (pc := 1) hV 13 dX5_isSheet_1 (by decide) (by omega) (fun c1 => ?_) (fun c1 => ?_)
  · show V 13 [some (ZI sheet)] [] 284 σ
    refine zr_iconst (pc := 13) hV 0 dX5_isSheet_13 rfl ?_
    show V 14 [some (ZI sheet)] [ZI 0] 284 σ
    exact zr_zret (pc := 14) hV dX5_isSheet_14 rfl rfl (by omega) ⟨rfl, _, rfl, ⟨by decide, by decide⟩, (by omega)⟩
  · show V 4 [some (ZI sheet)] [] 284 σ
    refine zr_iload_n (pc := 4) hV dX5_isSheet_4 rfl rfl ?_
    refine zr_iconst (pc := 5) hV 4 dX5_isSheet_5 rfl ?_
    refine zr_icmp_ge (pc := 6) hV 13 dX5_isSheet_6 (by decide) (by omega) ⟨by decide, by decide⟩ (fun c2 => ?_) (fun c2 => ?_)
    · show V 13 [some (ZI sheet)] [] 284 σ
      refine zr_iconst (pc := 13) hV 0 dX5_isSheet_13 rfl ?_
      show V 14 [some (ZI sheet)] [ZI 0] 284 σ
      exact zr_zret (pc := 14) hV dX5_isSheet_14 rfl rfl (by omega) ⟨rfl, _, rfl, ⟨by decide, by decide⟩, (by omega)⟩
    · show V 9 [some (ZI sheet)] [] 284 σ
      refine zr_iconst (pc := 9) hV 1 dX5_isSheet_9 rfl ?_
      refine zr_goto (pc := 10) hV 14 dX5_isSheet_10 (by decide) ?_
      show V 14 [some (ZI sheet)] [ZI 1] 284 σ
      exact zr_zret (pc := 14) hV dX5_isSheet_14 rfl rfl (by omega) ⟨rfl, _, rfl, ⟨by decide, by decide⟩, (by omega)⟩
set_option maxHeartbeats 800000 in
theorem c_X5_isLane {σ : zq_S} (lane : Int) (q0 : zq_in lane) : zq_C zc_w yX5_isLane cX5_isLane 1 (some .boolean) 0 0 284 284 [ZI lane] σ (zq_pp σ (fun r => (0 ≤ r ∧ r ≤ 1) ∧ (r = 1 ↔ 0 ≤ lane ∧ lane ≤ 2))) := by
  refine zq_C_of (by decide) (Nat.le_refl _) (Nat.le_of_ble_eq_true rfl) [some (ZI lane)] rfl (fun V hV => ?_)
  show V 0 [some (ZI lane)] [] 284 σ
  refine zr_iload_n (pc := 0) hV dX5_isLane_0 rfl rfl ?_
  refine zr_if_lt (pc := 1) hV 13 dX5_isLane_1 (by decide) (by omega) (fun c1 => ?_) (fun c1 => ?_)
  · show V 13 [some (ZI lane)] [] 284 σ
    refine zr_iconst (pc := 13) hV 0 dX5_isLane_13 rfl ?_
    show V 14 [some (ZI lane)] [ZI 0] 284 σ
    exact zr_zret (pc := 14) hV dX5_isLane_14 rfl rfl (by omega) ⟨rfl, _, rfl, ⟨by decide, by decide⟩, (by omega)⟩
  · show V 4 [some (ZI lane)] [] 284 σ
    refine zr_iload_n (pc := 4) hV dX5_isLane_4 rfl rfl ?_
    refine zr_iconst (pc := 5) hV 2 dX5_isLane_5 rfl ?_
    refine zr_icmp_gt (pc := 6) hV 13 dX5_isLane_6 (by decide) (by omega) ⟨by decide, by decide⟩ (fun c2 => ?_) (fun c2 => ?_)
    · show V 13 [some (ZI lane)] [] 284 σ
      refine zr_iconst (pc := 13) hV 0 dX5_isLane_13 rfl ?_
      show V 14 [some (ZI lane)] [ZI 0] 284 σ
      exact zr_zret (pc := 14) hV dX5_isLane_14 rfl rfl (by omega) ⟨rfl, _, rfl, ⟨by decide, by decide⟩, (by omega)⟩
    · show V 9 [some (ZI lane)] [] 284 σ
      refine zr_iconst (pc := 9) hV 1 dX5_isLane_9 rfl ?_
      refine zr_goto (pc := 10) hV 14 dX5_isLane_10 (by decide) ?_
      show V 14 [some (ZI lane)] [ZI 1] 284 σ
      exact zr_zret (pc := 14) hV dX5_isLane_14 rfl rfl (by omega) ⟨rfl, _, rfl, ⟨by decide, by decide⟩, (by omega)⟩
set_option maxHeartbeats 800000 in
theorem c_X5_refusal {σ : zq_S} (hσ : zc_T σ) (sheet : Int) (lane : Int) (from_ : Int) (n : Int) (q0 : 0 ≤ sheet ∧ sheet ≤ 3) (q1 : zq_in lane) (q2 : zq_in from_) (q3 : 0 ≤ n ∧ n ≤ 30) : zq_C zc_w yX5_refusal cX5_refusal 5 (some .int) 0 0 284 284 [ZR 276, ZI sheet, ZI lane, ZI from_, ZI n] σ (zq_pp σ (fun r => (0 ≤ r → r = 0 ∧ 0 ≤ from_ ∧ from_ + n ≤ σ 278 sheet ∧ σ 278 sheet ≤ 30))) := by
  refine zq_C_of (by decide) (Nat.le_refl _) (Nat.le_of_ble_eq_true rfl) [some (ZR 276), some (ZI sheet), some (ZI lane), some (ZI from_), some (ZI n)] rfl (fun V hV => ?_)
  show V 0 [some (ZR 276), some (ZI sheet), some (ZI lane), some (ZI from_), some (ZI n)] [] 284 σ
  refine zr_aload_n (pc := 0) hV dX5_refusal_0 rfl rfl ?_
  refine zr_getR (pc := 1) hV 0 277 dX5_refusal_1 fX5_11 rfl rfl (zc_k276 zc_s276) (zc_pos zc_s276 rfl) (zc_g276_0 hσ zc_s276) (by decide) ?_
  refine zr_iload_n (pc := 4) hV dX5_refusal_4 rfl rfl ?_
  refine zr_iald (pc := 5) hV dX5_refusal_5 (zc_k277 zc_s277) (zc_pos zc_s277 rfl) rfl (by omega) ?_
  have t1 := zc_ga277 hσ zc_s277 sheet
  refine zr_iconst (pc := 6) hV (-1) dX5_refusal_6 rfl ?_
  refine zr_icmp_ne (pc := 7) hV 13 dX5_refusal_7 (by decide) (by omega) ⟨by decide, by decide⟩ (fun c2 => ?_) (fun c2 => ?_)
  · show V 13 [some (ZR 276), some (ZI sheet), some (ZI lane), some (ZI from_), some (ZI n)] [] 284 σ
    refine zr_aload_n (pc := 13) hV dX5_refusal_13 rfl rfl ?_
    refine zr_getR (pc := 14) hV 0 277 dX5_refusal_14 fX5_11 rfl rfl (zc_k276 zc_s276) (zc_pos zc_s276 rfl) (zc_g276_0 hσ zc_s276) (by decide) ?_
    refine zr_iload_n (pc := 17) hV dX5_refusal_17 rfl rfl ?_
    refine zr_iald (pc := 18) hV dX5_refusal_18 (zc_k277 zc_s277) (zc_pos zc_s277 rfl) rfl (by omega) ?_
    have t3 := zc_ga277 hσ zc_s277 sheet
    refine zr_iload_n (pc := 19) hV dX5_refusal_19 rfl rfl ?_
    refine zr_icmp_eq (pc := 20) hV 26 dX5_refusal_20 (by decide) (by omega) (by omega) (fun c4 => ?_) (fun c4 => ?_)
    · show V 26 [some (ZR 276), some (ZI sheet), some (ZI lane), some (ZI from_), some (ZI n)] [] 284 σ
      refine zr_iload_n (pc := 26) hV dX5_refusal_26 rfl rfl ?_
      refine zr_if_lt (pc := 27) hV 43 dX5_refusal_27 (by decide) (by omega) (fun c5 => ?_) (fun c5 => ?_)
      · show V 43 [some (ZR 276), some (ZI sheet), some (ZI lane), some (ZI from_), some (ZI n)] [] 284 σ
        refine zr_bipush (pc := 43) hV (-13) dX5_refusal_43 (by decide) ?_
        refine zr_goto (pc := 45) hV 49 dX5_refusal_45 (by decide) ?_
        show V 49 [some (ZR 276), some (ZI sheet), some (ZI lane), some (ZI from_), some (ZI n)] [ZI (-13)] 284 σ
        exact zr_iret (pc := 49) hV dX5_refusal_49 rfl rfl ⟨rfl, _, rfl, ⟨by decide, by decide⟩, (by omega)⟩
      · show V 30 [some (ZR 276), some (ZI sheet), some (ZI lane), some (ZI from_), some (ZI n)] [] 284 σ
        refine zr_iload_n (pc := 30) hV dX5_refusal_30 rfl rfl ?_
        refine zr_aload_n (pc := 31) hV dX5_refusal_31 rfl rfl ?_
        refine zr_getR (pc := 32) hV 1 278 dX5_refusal_32 fX5_15 rfl rfl (zc_k276 zc_s276) (zc_pos zc_s276 rfl) (zc_g276_1 hσ zc_s276) (by decide) ?_
        refine zr_iload_n (pc := 35) hV dX5_refusal_35 rfl rfl ?_
        refine zr_iald (pc := 36) hV dX5_refusal_36 (zc_k278 zc_s278) (zc_pos zc_s278 rfl) rfl (by omega) ?_
        have t6 := zc_ga278 hσ zc_s278 sheet
        refine zr_iload (pc := 37) hV dX5_refusal_37 rfl ?_
        refine zr_isub (pc := 39) hV dX5_refusal_39 ?_
        refine zr_icmp_le (pc := 40) hV 48 dX5_refusal_40 (by decide) (by omega) (by omega) (fun c7 => ?_) (fun c7 => ?_)
        · show V 48 [some (ZR 276), some (ZI sheet), some (ZI lane), some (ZI from_), some (ZI n)] [] 284 σ
          refine zr_iconst (pc := 48) hV 0 dX5_refusal_48 rfl ?_
          show V 49 [some (ZR 276), some (ZI sheet), some (ZI lane), some (ZI from_), some (ZI n)] [ZI 0] 284 σ
          exact zr_iret (pc := 49) hV dX5_refusal_49 rfl rfl ⟨rfl, _, rfl, ⟨by decide, by decide⟩, (by omega)⟩
        · show V 43 [some (ZR 276), some (ZI sheet), some (ZI lane), some (ZI from_), some (ZI n)] [] 284 σ
          refine zr_bipush (pc := 43) hV (-13) dX5_refusal_43 (by decide) ?_
          refine zr_goto (pc := 45) hV 49 dX5_refusal_45 (by decide) ?_
          show V 49 [some (ZR 276), some (ZI sheet), some (ZI lane), some (ZI from_), some (ZI n)] [ZI (-13)] 284 σ
          exact zr_iret (pc := 49) hV dX5_refusal_49 rfl rfl ⟨rfl, _, rfl, ⟨by decide, by decide⟩, (by omega)⟩
    · show V 23 [some (ZR 276), some (ZI sheet), some (ZI lane), some (ZI from_), some (ZI n)] [] 284 σ
      refine zr_bipush (pc := 23) hV (-12) dX5_refusal_23 (by decide) ?_
      exact zr_iret (pc := 25) hV dX5_refusal_25 rfl rfl ⟨rfl, _, rfl, ⟨by decide, by decide⟩, (by omega)⟩
  · show V 10 [some (ZR 276), some (ZI sheet), some (ZI lane), some (ZI from_), some (ZI n)] [] 284 σ
    refine zr_bipush (pc := 10) hV (-11) dX5_refusal_10 (by decide) ?_
    exact zr_iret (pc := 12) hV dX5_refusal_12 rfl rfl ⟨rfl, _, rfl, ⟨by decide, by decide⟩, (by omega)⟩
