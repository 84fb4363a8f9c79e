set_option maxHeartbeats 800000 in
theorem c_X5_isSheet {σ : zq_S} (sheet : Int) (q0 : zq_in sheet) : zq_C zc_w yX5_isSheet cX5_isSheet 1 (some .boolean) 0 0 284 284 [ZI sheet] σ (zq_pp σ (fun r => (0 ≤ r ∧ r ≤ 1) ∧ (r = 1 ↔ 0 ≤ sheet ∧ sheet ≤ 3))) := by
  refine zq_C_of (by decide) (Nat.le_refl _) (Nat.le_of_ble_eq_true rfl) [some (ZI sheet)] rfl (fun V hV => ?_)
  show V 0 [some (ZI sheet)] [] 284 σ
  refine zr_iload_n (pc := 0) hV dX5_isSheet_0 rfl rfl ?_
  refine zr_if_lt (pc := 1) hV 13 dX5_isSheet_1 (by decide) (by omega) (fun c1 => ?_) (fun c1 => ?_)
  · show V 13 [some (ZI sheet)] [] 284 σ
    refine zr_iconst (pc := 13) hV 0 dX5_isSheet_13 rfl ?_
    show V 14 [some (ZI sheet)] [ZI 0] 284 σ
    exact zr_zret (pc := 14) hV dX5_isSheet_14 rfl rfl (by omega) ⟨rfl, _, rfl, ⟨by decide, by decide⟩, (by omega)⟩
  · show V 4 [some (ZI sheet)] [] 284 σ
    refine zr_iload_n (pc := 4) hV dX5_isSheet_4 rfl rfl ?_
    refine zr_iconst (pc := 5) hV 4 dX5_isSheet_5 rfl ?_
    refine zr_icmp_ge (pc := 6) hV 13 dX5_isSheet_6 (by decide) (by omega) ⟨by decide, by decide⟩ (fun c2 => ?_) (fun c2 => ?_)
    · show V 13 [some (ZI sheet)] [] 284 σ
      refine zr_iconst (pc := 13) hV 0 dX5_isSheet_13 rfl ?_
      show V 14 [some (ZI sheet)] [ZI 0] 284 σ
      exact zr_zret (pc := 14) hV dX5_isSheet_14 rfl rfl (by omega) ⟨rfl, _, rfl, ⟨by decide, by decide⟩, (by omega)⟩
    · show V 9 [some (ZI sheet)] [] 284 σ
      refine zr_iconst (pc := 9) hV 1 dX5_isSheet_9 rfl ?_
      refine zr_goto (pc := 10) hV 14 dX5_isSheet_10 (by decide) ?_
      show V 14 [some (ZI sheet)] [ZI 1] 284 σ
      exact zr_zret (pc := 14) hV dX5_isSheet_14 rfl rfl (by omega) ⟨rfl, _, rfl, ⟨by decide, by decide⟩, (by omega)⟩
set_option maxHeartbeats 800000 in
theorem c_X5_isLane {σ : zq_S} (lane : Int) (q0 : zq_in lane) : zq_C zc_w yX5_isLane cX5_isLane 1 (some .boolean) 0 0 284 284 [ZI lane] σ (zq_pp σ (fun r => (0 ≤ r ∧ r ≤ 1) ∧ (r = 1 ↔ 0 ≤ lane ∧ lane ≤ 2))) := by
  refine zq_C_of (by decide) (Nat.le_refl _) (Nat.le_of_ble_eq_true rfl) [some (ZI lane)] rfl (fun V hV => ?_)
  show V 0 [some (ZI lane)] [] 284 σ
  refine zr_iload_n (pc := 0) hV dX5_isLane_0 rfl rfl ?_
  refine zr_if_lt (pc := 1) hV 13 dX5_isLane_1 (by decide) (by omega) (fun c1 => ?_) (fun c1 => ?_)
  · show V 13 [some (ZI lane)] [] 284 σ
    refine zr_iconst (pc := 13) hV 0 dX5_isLane_13 rfl ?_
    show V 14 [some (ZI lane)] [ZI 0] 284 σ
    exact zr_zret (pc := 14) hV dX5_isLane_14 rfl rfl (by omega) ⟨rfl, _, rfl, ⟨by decide, by decide⟩, (by omega)⟩
  · show V 4 [some (ZI lane)] [] 284 σ
    refine zr_iload_n (pc := 4) hV dX5_isLane_4 rfl rfl ?_
    refine zr_iconst (pc := 5) hV 2 dX5_isLane_5 rfl ?_
    refine zr_icmp_gt (pc := 6) hV 13 dX5_isLane_6 (by decide) (by omega) ⟨by decide, by decide⟩ (fun c2 => ?_) (fun c2 => ?_)
    · show V 13 [some (ZI lane)] [] 284 σ
      refine zr_iconst (pc := 13) hV 0 dX5_isLane_13 rfl ?_
      show V 14 [some (ZI lane)] [ZI 0] 284 σ
      exact zr_zret (pc := 14) hV dX5_isLane_14 rfl rfl (by omega) ⟨rfl, _, rfl, ⟨by decide, by decide⟩, (by omega)⟩
    · show V 9 [some (ZI lane)] [] 284 σ
      refine zr_iconst (pc := 9) hV 1 dX5_isLane_9 rfl ?_
      refine zr_goto (pc := 10) hV 14 dX5_isLane_10 (by decide) ?_
      show V 14 [some (ZI lane)] [ZI 1] 284 σ
      exact zr_zret (pc := 14) hV dX5_isLane_14 rfl rfl (by omega) ⟨rfl, _, rfl, ⟨by decide, by decide⟩, (by omega)⟩
