set_option maxHeartbeats 800000 in
theorem c_X12_reckon2 {σ : zq_S} (sign x y : Int) (q0 : zq_in sign) (q1 : 0 ≤ x ∧ x ≤ 255) (q2 : 0 ≤ y ∧ y ≤ 255) : zq_C zx_w yX12_reckon cX12_reckon 3 (some .int) 0 0 41 41 [ZI sign, ZI x, ZI y] σ (zq_pp σ (fun r => r = zw_rk sign x y)) := by
  refine zq_C_of (by decide) (Nat.le_refl _) (Nat.le_of_ble_eq_true rfl) [some (ZI sign), some (ZI x), some (ZI y)] rfl (fun V hV => ?_)
  show V 0 [some (ZI sign), some (ZI x), some (ZI y)] [] 41 σ
  refine zr_iload_n (pc := 0) hV dX12_reckon_0 rfl rfl ?_
  by_cases c1 : sign = 1
  · refine zr_eqI (V := V) 1 c1 ?_
    refine zr_tableIn (pc := 1) hV 40 dX12_reckon_1 ⟨by decide, by decide⟩ (by decide) (by decide) rfl (by decide) ?_
    show V 40 [some (ZI sign), some (ZI x), some (ZI y)] [] 41 σ
    refine zr_iload_n (pc := 40) hV dX12_reckon_40 rfl rfl ?_
    refine zr_iload_n (pc := 41) hV dX12_reckon_41 rfl rfl ?_
    refine zr_iadd (pc := 42) hV dX12_reckon_42 ?_
    exact zr_iret (pc := 43) hV dX12_reckon_43 rfl rfl ⟨rfl, _, rfl, (by omega), (by unfold zw_rk; repeat' split; all_goals omega)⟩
  by_cases c2 : sign = 2
  · refine zr_eqI (V := V) 2 c2 ?_
    refine zr_tableIn (pc := 1) hV 44 dX12_reckon_1 ⟨by decide, by decide⟩ (by decide) (by decide) rfl (by decide) ?_
    show V 44 [some (ZI sign), some (ZI x), some (ZI y)] [] 41 σ
    refine zr_iload_n (pc := 44) hV dX12_reckon_44 rfl rfl ?_
    refine zr_iload_n (pc := 45) hV dX12_reckon_45 rfl rfl ?_
    refine zr_isub (pc := 46) hV dX12_reckon_46 ?_
    exact zr_iret (pc := 47) hV dX12_reckon_47 rfl rfl ⟨rfl, _, rfl, (by omega), (by unfold zw_rk; repeat' split; all_goals omega)⟩
  by_cases c3 : sign = 3
  · refine zr_eqI (V := V) 3 c3 ?_
    refine zr_tableIn (pc := 1) hV 48 dX12_reckon_1 ⟨by decide, by decide⟩ (by decide) (by decide) rfl (by decide) ?_
    show V 48 [some (ZI sign), some (ZI x), some (ZI y)] [] 41 σ
    refine zr_iload_n (pc := 48) hV dX12_reckon_48 rfl rfl ?_
    refine zr_iload_n (pc := 49) hV dX12_reckon_49 rfl rfl ?_
    refine zr_iand (pc := 50) hV dX12_reckon_50 ?_
    have t4 := zq_and_nnR (x := x) (y := y) (by omega)
    exact zr_iret (pc := 51) hV dX12_reckon_51 rfl rfl ⟨rfl, _, rfl, (by omega), (by unfold zw_rk; repeat' split; all_goals omega)⟩
  by_cases c5 : sign = 4
  · refine zr_eqI (V := V) 4 c5 ?_
    refine zr_tableIn (pc := 1) hV 52 dX12_reckon_1 ⟨by decide, by decide⟩ (by decide) (by decide) rfl (by decide) ?_
    show V 52 [some (ZI sign), some (ZI x), some (ZI y)] [] 41 σ
    refine zr_iload_n (pc := 52) hV dX12_reckon_52 rfl rfl ?_
    refine zr_iload_n (pc := 53) hV dX12_reckon_53 rfl rfl ?_
    refine zr_ior (pc := 54) hV dX12_reckon_54 ?_
    have t6 := zq_or_b (x := x) (y := y) 8 256 (by decide) (by decide) (by omega) (by omega)
    exact zr_iret (pc := 55) hV dX12_reckon_55 rfl rfl ⟨rfl, _, rfl, (by omega), (by unfold zw_rk; repeat' split; all_goals omega)⟩
  by_cases c7 : sign = 5
  · refine zr_eqI (V := V) 5 c7 ?_
    refine zr_tableIn (pc := 1) hV 56 dX12_reckon_1 ⟨by decide, by decide⟩ (by decide) (by decide) rfl (by decide) ?_
    show V 56 [some (ZI sign), some (ZI x), some (ZI y)] [] 41 σ
    refine zr_iload_n (pc := 56) hV dX12_reckon_56 rfl rfl ?_
    refine zr_iload_n (pc := 57) hV dX12_reckon_57 rfl rfl ?_
    refine zr_ixor (pc := 58) hV dX12_reckon_58 ?_
    have t8 := zq_xor_b (x := x) (y := y) 8 256 (by decide) (by decide) (by omega) (by omega)
    exact zr_iret (pc := 59) hV dX12_reckon_59 rfl rfl ⟨rfl, _, rfl, (by omega), (by unfold zw_rk; repeat' split; all_goals omega)⟩
  by_cases c9 : sign = 6
  · refine zr_eqI (V := V) 6 c9 ?_
    refine zr_tableIn (pc := 1) hV 60 dX12_reckon_1 ⟨by decide, by decide⟩ (by decide) (by decide) rfl (by decide) ?_
    show V 60 [some (ZI sign), some (ZI x), some (ZI y)] [] 41 σ
    refine zr_iload_n (pc := 60) hV dX12_reckon_60 rfl rfl ?_
    refine zr_iload_n (pc := 61) hV dX12_reckon_61 rfl rfl ?_
    refine zr_icmp_ge (pc := 62) hV 69 dX12_reckon_62 (by decide) (by omega) (by omega) (fun c10 => ?_) (fun c10 => ?_)
    · show V 69 [some (ZI sign), some (ZI x), some (ZI y)] [] 41 σ
      refine zr_iconst (pc := 69) hV 0 dX12_reckon_69 rfl ?_
      show V 70 [some (ZI sign), some (ZI x), some (ZI y)] [ZI 0] 41 σ
      exact zr_iret (pc := 70) hV dX12_reckon_70 rfl rfl ⟨rfl, _, rfl, ⟨by decide, by decide⟩, (by unfold zw_rk; repeat' split; all_goals omega)⟩
    · show V 65 [some (ZI sign), some (ZI x), some (ZI y)] [] 41 σ
      refine zr_iconst (pc := 65) hV 1 dX12_reckon_65 rfl ?_
      refine zr_goto (pc := 66) hV 70 dX12_reckon_66 (by decide) ?_
      show V 70 [some (ZI sign), some (ZI x), some (ZI y)] [ZI 1] 41 σ
      exact zr_iret (pc := 70) hV dX12_reckon_70 rfl rfl ⟨rfl, _, rfl, ⟨by decide, by decide⟩, (by unfold zw_rk; repeat' split; all_goals omega)⟩
  refine zr_tableOut (pc := 1) hV 71 dX12_reckon_1 (by omega) (by omega) (by decide) ?_
  show V 71 [some (ZI sign), some (ZI x), some (ZI y)] [] 41 σ
  refine zr_iload_n (pc := 71) hV dX12_reckon_71 rfl rfl ?_
  exact zr_iret (pc := 72) hV dX12_reckon_72 rfl rfl ⟨rfl, _, rfl, (by omega), (by unfold zw_rk; repeat' split; all_goals omega)⟩
