set_option maxHeartbeats 800000 in
theorem c_X3_combine_2 {σ : zq_S} (sign : Int) (left : Int) (right : Int) (mask : Int) (q0 : zq_in sign) (q1 : 0 ≤ left ∧ left ≤ 255) (q2 : 0 ≤ right ∧ right ≤ 255) (q3 : 0 ≤ mask ∧ mask ≤ 255) : zq_C zc_w yX3_combine cX3_combine 4 (some .int) 0 0 284 284 [ZI sign, ZI left, ZI right, ZI mask] σ (zq_pp σ (fun r => (0 ≤ r ∧ r ≤ 255) ∧ r = if sign = 43 then zq_and (left + right) mask else if sign = 45 then zq_and (left - right) mask else if sign = 38 then zq_and left right else if sign = 124 then zq_or left right else if sign = 94 then zq_xor left right else if left < right then 1 else 0)) := by
  refine zq_C_of (by decide) (Nat.le_refl _) (Nat.le_of_ble_eq_true rfl) [some (ZI sign), some (ZI left), some (ZI right), some (ZI mask)] rfl (fun V hV => ?_)
  show V 0 [some (ZI sign), some (ZI left), some (ZI right), some (ZI mask)] [] 284 σ
  refine zr_iload_n (pc := 0) hV dX3_combine_0 rfl rfl ?_
  by_cases c1 : sign = 38
  · refine zr_eqI (V := V) 38 c1 ?_
    refine zr_lookup (pc := 1) hV 64 dX3_combine_1 ⟨by decide, by decide⟩ (by decide) rfl (by decide) ?_
    show V 64 [some (ZI sign), some (ZI left), some (ZI right), some (ZI mask)] [] 284 σ
    refine zr_iload_n (pc := 64) hV dX3_combine_64 rfl rfl ?_
    refine zr_iload_n (pc := 65) hV dX3_combine_65 rfl rfl ?_
    refine zr_iand (pc := 66) hV dX3_combine_66 ?_
    have t2 := zq_and_nnR (x := left) (y := right) (by omega)
    exact zr_iret (pc := 67) hV dX3_combine_67 rfl rfl ⟨rfl, _, rfl, (by omega), ⟨by omega, (by repeat (first | rw [if_pos (by omega)] | rw [if_neg (by omega)]))⟩⟩
  by_cases c3 : sign = 43
  · refine zr_eqI (V := V) 43 c3 ?_
    refine zr_lookup (pc := 1) hV 52 dX3_combine_1 ⟨by decide, by decide⟩ (by decide) rfl (by decide) ?_
    show V 52 [some (ZI sign), some (ZI left), some (ZI right), some (ZI mask)] [] 284 σ
    refine zr_iload_n (pc := 52) hV dX3_combine_52 rfl rfl ?_
    refine zr_iload_n (pc := 53) hV dX3_combine_53 rfl rfl ?_
    refine zr_iadd (pc := 54) hV dX3_combine_54 ?_
    refine zr_iload_n (pc := 55) hV dX3_combine_55 rfl rfl ?_
    refine zr_iand (pc := 56) hV dX3_combine_56 ?_
    have t4 := zq_and_nnR (x := left + right) (y := mask) (by omega)
    exact zr_iret (pc := 57) hV dX3_combine_57 rfl rfl ⟨rfl, _, rfl, (by omega), ⟨by omega, (by repeat (first | rw [if_pos (by omega)] | rw [if_neg (by omega)]))⟩⟩
  by_cases c5 : sign = 45
  · refine zr_eqI (V := V) 45 c5 ?_
    refine zr_lookup (pc := 1) hV 58 dX3_combine_1 ⟨by decide, by decide⟩ (by decide) rfl (by decide) ?_
    show V 58 [some (ZI sign), some (ZI left), some (ZI right), some (ZI mask)] [] 284 σ
    refine zr_iload_n (pc := 58) hV dX3_combine_58 rfl rfl ?_
    refine zr_iload_n (pc := 59) hV dX3_combine_59 rfl rfl ?_
    refine zr_isub (pc := 60) hV dX3_combine_60 ?_
    refine zr_iload_n (pc := 61) hV dX3_combine_61 rfl rfl ?_
    refine zr_iand (pc := 62) hV dX3_combine_62 ?_
    have t6 := zq_and_nnR (x := left - right) (y := mask) (by omega)
    exact zr_iret (pc := 63) hV dX3_combine_63 rfl rfl ⟨rfl, _, rfl, (by omega), ⟨by omega, (by repeat (first | rw [if_pos (by omega)] | rw [if_neg (by omega)]))⟩⟩
  by_cases c7 : sign = 94
  · refine zr_eqI (V := V) 94 c7 ?_
    refine zr_lookup (pc := 1) hV 72 dX3_combine_1 ⟨by decide, by decide⟩ (by decide) rfl (by decide) ?_
    show V 72 [some (ZI sign), some (ZI left), some (ZI right), some (ZI mask)] [] 284 σ
    refine zr_iload_n (pc := 72) hV dX3_combine_72 rfl rfl ?_
    refine zr_iload_n (pc := 73) hV dX3_combine_73 rfl rfl ?_
    refine zr_ixor (pc := 74) hV dX3_combine_74 ?_
    have t8 := zq_xor_b (x := left) (y := right) 8 256 (by decide) (by decide) (by omega) (by omega)
    exact zr_iret (pc := 75) hV dX3_combine_75 rfl rfl ⟨rfl, _, rfl, (by omega), ⟨by omega, (by repeat (first | rw [if_pos (by omega)] | rw [if_neg (by omega)]))⟩⟩
  by_cases c9 : sign = 124
  · refine zr_eqI (V := V) 124 c9 ?_
    refine zr_lookup (pc := 1) hV 68 dX3_combine_1 ⟨by decide, by decide⟩ (by decide) rfl (by decide) ?_
    show V 68 [some (ZI sign), some (ZI left), some (ZI right), some (ZI mask)] [] 284 σ
    refine zr_iload_n (pc := 68) hV dX3_combine_68 rfl rfl ?_
    refine zr_iload_n (pc := 69) hV dX3_combine_69 rfl rfl ?_
    refine zr_ior (pc := 70) hV dX3_combine_70 ?_
    have t10 := zq_or_b (x := left) (y := right) 8 256 (by decide) (by decide) (by omega) (by omega)
    exact zr_iret (pc := 71) hV dX3_combine_71 rfl rfl ⟨rfl, _, rfl, (by omega), ⟨by omega, (by repeat (first | rw [if_pos (by omega)] | rw [if_neg (by omega)]))⟩⟩
  refine zr_lookup (pc := 1) (off := 75) hV 76 dX3_combine_1 (by omega) (by decide) (by simp only [Op.lookupswitch.offset]; repeat (split <;> try omega)) (by decide) ?_
  show V 76 [some (ZI sign), some (ZI left), some (ZI right), some (ZI mask)] [] 284 σ
  refine zr_iload_n (pc := 76) hV dX3_combine_76 rfl rfl ?_
  refine zr_iload_n (pc := 77) hV dX3_combine_77 rfl rfl ?_
  refine zr_icmp_ge (pc := 78) hV 85 dX3_combine_78 (by decide) (by omega) (by omega) (fun c11 => ?_) (fun c11 => ?_)
  · show V 85 [some (ZI sign), some (ZI left), some (ZI right), some (ZI mask)] [] 284 σ
    refine zr_iconst (pc := 85) hV 0 dX3_combine_85 rfl ?_
    show V 86 [some (ZI sign), some (ZI left), some (ZI right), some (ZI mask)] [ZI 0] 284 σ
    exact zr_iret (pc := 86) hV dX3_combine_86 rfl rfl ⟨rfl, _, rfl, ⟨by decide, by decide⟩, ⟨by omega, (by repeat (first | rw [if_pos (by omega)] | rw [if_neg (by omega)]))⟩⟩
  · show V 81 [some (ZI sign), some (ZI left), some (ZI right), some (ZI mask)] [] 284 σ
    refine zr_iconst (pc := 81) hV 1 dX3_combine_81 rfl ?_
    refine zr_goto (pc := 82) hV 86 dX3_combine_82 (by decide) ?_
    show V 86 [some (ZI sign), some (ZI left), some (ZI right), some (ZI mask)] [ZI 1] 284 σ
    exact zr_iret (pc := 86) hV dX3_combine_86 rfl rfl ⟨rfl, _, rfl, ⟨by decide, by decide⟩, ⟨by omega, (by repeat (first | rw [if_pos (by omega)] | rw [if_neg (by omega)]))⟩⟩
