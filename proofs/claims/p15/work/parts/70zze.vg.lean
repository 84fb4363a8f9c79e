set_option maxHeartbeats 800000 in
theorem c_X12_narrowOfField2 {σ : zq_S} (hσ : zx_T σ) (state field : Int) (q0 : state = 11 ∨ state = 12) (q1 : 0 ≤ field ∧ field ≤ 3) (q2 : σ 0 22 ≤ 3) : zq_C zx_w yX12_narrowOfField cX12_narrowOfField 3 (some .int) 0 0 41 41 [ZR 0, ZR state, ZI field] σ (zq_pp σ (fun r => 0 ≤ r ∧ r ≤ 3 ∧ r = if field = 3 then σ 0 22 else σ state field)) := by
  refine zq_C_of (by decide) (Nat.le_refl _) (Nat.le_of_ble_eq_true rfl) [some (ZR 0), some (ZR state), some (ZI field)] rfl (fun V hV => ?_)
  show V 0 [some (ZR 0), some (ZR state), some (ZI field)] [] 41 σ
  refine zr_iload_n (pc := 0) hV dX12_narrowOfField_0 rfl rfl ?_
  refine zr_iconst (pc := 1) hV 3 dX12_narrowOfField_1 rfl ?_
  refine zr_icmp_ne (pc := 2) hV 12 dX12_narrowOfField_2 (by decide) (by omega) ⟨by decide, by decide⟩ (fun c1 => ?_) (fun c1 => ?_)
  · show V 12 [some (ZR 0), some (ZR state), some (ZI field)] [] 41 σ
    refine zr_aload_n (pc := 12) hV dX12_narrowOfField_12 rfl rfl ?_
    refine zr_iload_n (pc := 13) hV dX12_narrowOfField_13 rfl rfl ?_
    refine zr_iald (pc := 14) hV dX12_narrowOfField_14 (zx_nk q0) (by omega) rfl (by omega) ?_
    have t2 := zx_gan q0 hσ field
    show V 15 [some (ZR 0), some (ZR state), some (ZI field)] [ZI (σ state field)] 41 σ
    exact zr_iret (pc := 15) hV dX12_narrowOfField_15 rfl rfl ⟨rfl, _, rfl, (by omega), ⟨by omega, by omega, by first | rw [if_pos (by omega)] | rw [if_neg (by omega)]⟩⟩
  · show V 5 [some (ZR 0), some (ZR state), some (ZI field)] [] 41 σ
    refine zr_aload_n (pc := 5) hV dX12_narrowOfField_5 rfl rfl ?_
    refine zr_getI (pc := 6) hV 22 dX12_narrowOfField_6 fX12_293 rfl rfl rfl (by decide) ?_
    have t3 := zx_g22 hσ
    refine zr_goto (pc := 9) hV 15 dX12_narrowOfField_9 (by decide) ?_
    show V 15 [some (ZR 0), some (ZR state), some (ZI field)] [ZI (σ 0 22)] 41 σ
    exact zr_iret (pc := 15) hV dX12_narrowOfField_15 rfl rfl ⟨rfl, _, rfl, (by omega), ⟨by omega, by omega, by first | rw [if_pos (by omega)] | rw [if_neg (by omega)]⟩⟩
set_option maxHeartbeats 800000 in
theorem c_X12_narrowOf2 {σ : zq_S} (hσ : zx_T σ) (state what number : Int) (q0 : state = 11 ∨ state = 12) (q1 : 0 ≤ what ∧ what ≤ 10) (q2 : zq_in number) (q3 : σ 0 22 ≤ 3) : zq_C zx_w yX12_narrowOf cX12_narrowOf 4 (some .int) 1 22 41 41 [ZR 0, ZR state, ZI what, ZI number] σ (zq_pp σ (fun r => 0 ≤ r ∧ r ≤ 3 ∧ r = zw_va (zn_F (σ 0 22)) (zn_row (σ state)) 3 what number)) := by
  refine zq_C_of (by decide) (Nat.le_refl _) (Nat.le_of_ble_eq_true rfl) [some (ZR 0), some (ZR state), some (ZI what), some (ZI number)] rfl (fun V hV => ?_)
  have z22 := zx_g22 hσ
  show V 0 [some (ZR 0), some (ZR state), some (ZI what), some (ZI number)] [] 41 σ
  refine zr_iload_n (pc := 0) hV dX12_narrowOf_0 rfl rfl ?_
  refine zr_iconst (pc := 1) hV 3 dX12_narrowOf_1 rfl ?_
  refine zr_icmp_ge (pc := 2) hV 9 dX12_narrowOf_2 (by decide) (by omega) ⟨by decide, by decide⟩ (fun c1 => ?_) (fun c1 => ?_)
  · show V 9 [some (ZR 0), some (ZR state), some (ZI what), some (ZI number)] [] 41 σ
    refine zr_iload_n (pc := 9) hV dX12_narrowOf_9 rfl rfl ?_
    refine zr_iconst (pc := 10) hV 3 dX12_narrowOf_10 rfl ?_
    refine zr_icmp_ne (pc := 11) hV 19 dX12_narrowOf_11 (by decide) (by omega) ⟨by decide, by decide⟩ (fun c2 => ?_) (fun c2 => ?_)
    · show V 19 [some (ZR 0), some (ZR state), some (ZI what), some (ZI number)] [] 41 σ
      refine zr_iload_n (pc := 19) hV dX12_narrowOf_19 rfl rfl ?_
      refine zr_iconst (pc := 20) hV 4 dX12_narrowOf_20 rfl ?_
      refine zr_icmp_eq (pc := 21) hV 29 dX12_narrowOf_21 (by decide) (by omega) ⟨by decide, by decide⟩ (fun c3 => ?_) (fun c3 => ?_)
      · show V 29 [some (ZR 0), some (ZR state), some (ZI what), some (ZI number)] [] 41 σ
        refine zr_aload_n (pc := 29) hV dX12_narrowOf_29 rfl rfl ?_
        refine zr_iload_n (pc := 30) hV dX12_narrowOf_30 rfl rfl ?_
        refine zr_iconst (pc := 31) hV 1 dX12_narrowOf_31 rfl ?_
        refine zr_isub (pc := 32) hV dX12_narrowOf_32 ?_
        refine zr_iald (pc := 33) hV dX12_narrowOf_33 (zx_nk q0) (by omega) rfl (by omega) ?_
        have t4 := zx_gan q0 hσ (what - 1)
        exact zr_iret (pc := 34) hV dX12_narrowOf_34 rfl rfl ⟨rfl, _, rfl, (by omega), ⟨by omega, by omega, zn_fva (fun x => zx_gan q0 hσ x) (by omega) (by omega) (fun h => by first | exact rfl | (exfalso; omega)) (fun h => by first | exact rfl | (exfalso; omega)) (fun h => by first | (rw [show what - 1 = 3 by omega]) | (exfalso; omega)) (fun h => by first | (rw [show what - 1 = 4 by omega]) | (exfalso; omega)) (fun h => by first | exact rfl | (exfalso; omega)) (fun h h2 => by first | exact ⟨r53, pr53.2.2, rfl⟩ | (exfalso; omega))⟩⟩
      · show V 24 [some (ZR 0), some (ZR state), some (ZI what), some (ZI number)] [] 41 σ
        refine zr_iload_n (pc := 24) hV dX12_narrowOf_24 rfl rfl ?_
        refine zr_iconst (pc := 25) hV 5 dX12_narrowOf_25 rfl ?_
        refine zr_icmp_ne (pc := 26) hV 35 dX12_narrowOf_26 (by decide) (by omega) ⟨by decide, by decide⟩ (fun c5 => ?_) (fun c5 => ?_)
        · show V 35 [some (ZR 0), some (ZR state), some (ZI what), some (ZI number)] [] 41 σ
          refine zr_iload_n (pc := 35) hV dX12_narrowOf_35 rfl rfl ?_
          refine zr_bipush (pc := 36) hV 10 dX12_narrowOf_36 (by decide) ?_
          refine zr_icmp_ne (pc := 38) hV 45 dX12_narrowOf_38 (by decide) (by omega) ⟨by decide, by decide⟩ (fun c6 => ?_) (fun c6 => ?_)
          · show V 45 [some (ZR 0), some (ZR state), some (ZI what), some (ZI number)] [] 41 σ
            refine zr_aload_n (pc := 45) hV dX12_narrowOf_45 rfl rfl ?_
            refine zr_iconst (pc := 46) hV 5 dX12_narrowOf_46 rfl ?_
            refine zr_aload_n (pc := 47) hV dX12_narrowOf_47 rfl rfl ?_
            refine zr_aload_n (pc := 48) hV dX12_narrowOf_48 rfl rfl ?_
            refine zr_iload_n (pc := 49) hV dX12_narrowOf_49 rfl rfl ?_
            refine zr_bipush (pc := 50) hV 6 dX12_narrowOf_50 (by decide) ?_
            refine zr_isub (pc := 52) hV dX12_narrowOf_52 ?_
            have t7 := zx_g22 hσ
            refine zr_callVp (pc := 53) hV [ZR state, ZI (what - 6)] (st := [ZI 5, ZR state]) (c_X12_narrowOfField2 (σ := σ) hσ state (what - 6) (by omega) (by omega) (by omega)) dX12_narrowOf_53 mX12_296 rfl (by decide) (by decide) (Nat.le_of_ble_eq_true rfl) (Nat.le_refl _) (fun r53 hr53 pr53 => ?_)
            have t8 := zx_g22 hσ
            refine zr_iadd (pc := 56) hV dX12_narrowOf_56 ?_
            refine zr_iald (pc := 57) hV dX12_narrowOf_57 (zx_nk q0) (by omega) rfl (by omega) ?_
            have t9 := zx_gan q0 hσ (5 + r53)
            exact zr_iret (pc := 58) hV dX12_narrowOf_58 rfl rfl ⟨rfl, _, rfl, (by omega), ⟨by omega, by omega, zn_fva (fun x => zx_gan q0 hσ x) (by omega) (by omega) (fun h => by first | exact rfl | (exfalso; omega)) (fun h => by first | exact rfl | (exfalso; omega)) (fun h => by first | (rw [show what - 1 = 3 by omega]) | (exfalso; omega)) (fun h => by first | (rw [show what - 1 = 4 by omega]) | (exfalso; omega)) (fun h => by first | exact rfl | (exfalso; omega)) (fun h h2 => by first | exact ⟨r53, pr53.2.2, rfl⟩ | (exfalso; omega))⟩⟩
          · show V 41 [some (ZR 0), some (ZR state), some (ZI what), some (ZI number)] [] 41 σ
            refine zr_iload_n (pc := 41) hV dX12_narrowOf_41 rfl rfl ?_
            refine zr_iconst (pc := 42) hV 3 dX12_narrowOf_42 rfl ?_
            refine zr_iand (pc := 43) hV dX12_narrowOf_43 ?_
            have t10 := zq_and_mask number 2 3 4 (by decide) (by decide) (by decide)
            exact zr_iret (pc := 44) hV dX12_narrowOf_44 rfl rfl ⟨rfl, _, rfl, (by omega), ⟨by omega, by omega, zn_fva (fun x => zx_gan q0 hσ x) (by omega) (by omega) (fun h => by first | exact rfl | (exfalso; omega)) (fun h => by first | exact rfl | (exfalso; omega)) (fun h => by first | (rw [show what - 1 = 3 by omega]) | (exfalso; omega)) (fun h => by first | (rw [show what - 1 = 4 by omega]) | (exfalso; omega)) (fun h => by first | exact rfl | (exfalso; omega)) (fun h h2 => by first | exact ⟨r53, pr53.2.2, rfl⟩ | (exfalso; omega))⟩⟩
        · show V 29 [some (ZR 0), some (ZR state), some (ZI what), some (ZI number)] [] 41 σ
          refine zr_aload_n (pc := 29) hV dX12_narrowOf_29 rfl rfl ?_
          refine zr_iload_n (pc := 30) hV dX12_narrowOf_30 rfl rfl ?_
          refine zr_iconst (pc := 31) hV 1 dX12_narrowOf_31 rfl ?_
          refine zr_isub (pc := 32) hV dX12_narrowOf_32 ?_
          refine zr_iald (pc := 33) hV dX12_narrowOf_33 (zx_nk q0) (by omega) rfl (by omega) ?_
          have t11 := zx_gan q0 hσ (what - 1)
          exact zr_iret (pc := 34) hV dX12_narrowOf_34 rfl rfl ⟨rfl, _, rfl, (by omega), ⟨by omega, by omega, zn_fva (fun x => zx_gan q0 hσ x) (by omega) (by omega) (fun h => by first | exact rfl | (exfalso; omega)) (fun h => by first | exact rfl | (exfalso; omega)) (fun h => by first | (rw [show what - 1 = 3 by omega]) | (exfalso; omega)) (fun h => by first | (rw [show what - 1 = 4 by omega]) | (exfalso; omega)) (fun h => by first | exact rfl | (exfalso; omega)) (fun h h2 => by first | exact ⟨r53, pr53.2.2, rfl⟩ | (exfalso; omega))⟩⟩
    · show V 14 [some (ZR 0), some (ZR state), some (ZI what), some (ZI number)] [] 41 σ
      refine zr_aload_n (pc := 14) hV dX12_narrowOf_14 rfl rfl ?_
      refine zr_getI (pc := 15) hV 22 dX12_narrowOf_15 fX12_293 rfl rfl rfl (by decide) ?_
      have t12 := zx_g22 hσ
      exact zr_iret (pc := 18) hV dX12_narrowOf_18 rfl rfl ⟨rfl, _, rfl, (by omega), ⟨by omega, by omega, zn_fva (fun x => zx_gan q0 hσ x) (by omega) (by omega) (fun h => by first | exact rfl | (exfalso; omega)) (fun h => by first | exact rfl | (exfalso; omega)) (fun h => by first | (rw [show what - 1 = 3 by omega]) | (exfalso; omega)) (fun h => by first | (rw [show what - 1 = 4 by omega]) | (exfalso; omega)) (fun h => by first | exact rfl | (exfalso; omega)) (fun h h2 => by first | exact ⟨r53, pr53.2.2, rfl⟩ | (exfalso; omega))⟩⟩
  · show V 5 [some (ZR 0), some (ZR state), some (ZI what), some (ZI number)] [] 41 σ
    refine zr_aload_n (pc := 5) hV dX12_narrowOf_5 rfl rfl ?_
    refine zr_iload_n (pc := 6) hV dX12_narrowOf_6 rfl rfl ?_
    refine zr_iald (pc := 7) hV dX12_narrowOf_7 (zx_nk q0) (by omega) rfl (by omega) ?_
    have t13 := zx_gan q0 hσ what
    exact zr_iret (pc := 8) hV dX12_narrowOf_8 rfl rfl ⟨rfl, _, rfl, (by omega), ⟨by omega, by omega, zn_fva (fun x => zx_gan q0 hσ x) (by omega) (by omega) (fun h => by first | exact rfl | (exfalso; omega)) (fun h => by first | exact rfl | (exfalso; omega)) (fun h => by first | (rw [show what - 1 = 3 by omega]) | (exfalso; omega)) (fun h => by first | (rw [show what - 1 = 4 by omega]) | (exfalso; omega)) (fun h => by first | exact rfl | (exfalso; omega)) (fun h h2 => by first | exact ⟨r53, pr53.2.2, rfl⟩ | (exfalso; omega))⟩⟩
set_option maxHeartbeats 800000 in
theorem c_X12_doNarrow2 {σ : zq_S} (hσ : zx_T σ) (o state : Int) (q0 : state = 11 ∨ state = 12) (q1 : 0 ≤ o ∧ o ≤ 20) (q2 : σ 0 22 ≤ 3) (q3 : zx_A σ o) (q4 : σ 3 o = 0 ∨ σ 4 o ≠ 3) : zq_C zx_w yX12_doNarrow cX12_doNarrow 9 (none) 2 45 41 41 [ZR 0, ZI o, ZR state] σ (zq_pv (fun τ => zx_T τ ∧ (∀ a i : Int, (a ≠ 11 ∧ a ≠ 12) → τ a i = σ a i) ∧ (True) ∧ zq_hid (zn_row (τ state) = zw_do (zn_F (σ 0 22)) 3 (σ 6) o (σ 3 o) (σ 4 o) (σ 5 o) (zn_row (σ state)) ∧ ∀ a i, a ≠ state → τ a i = σ a i))) := by
  refine zq_C_of (by decide) (Nat.le_refl _) (Nat.le_of_ble_eq_true rfl) [some (ZR 0), some (ZI o), some (ZR state), none, none, none, none, none, none] rfl (fun V hV => ?_)
  have z5o := zx_ga5 hσ o
  have z22 := zx_g22 hσ
  show V 0 [some (ZR 0), some (ZI o), some (ZR state), none, none, none, none, none, none] [] 41 σ
  refine zr_aload_n (pc := 0) hV dX12_doNarrow_0 rfl rfl ?_
  refine zr_getR (pc := 1) hV 6 3 dX12_doNarrow_1 fX12_26 rfl rfl rfl (by decide) (zx_g6 hσ) (by omega) ?_
  refine zr_iload_n (pc := 4) hV dX12_doNarrow_4 rfl rfl ?_
  refine zr_iald (pc := 5) hV dX12_doNarrow_5 rfl (by decide) rfl (by omega) ?_
  have t1 := zx_ga3 hσ o
  have J62 : (zq_hid (zw_gd (zn_F (σ 0 22)) (zn_row (σ state)) (σ 3 o) (σ 4 o))) → V 62 [some (ZR 0), some (ZI o), some (ZR state), none, none, none, none, none, none] [] 41 σ := by
    intro hi62_0
    show V 62 [some (ZR 0), some (ZI o), some (ZR state), none, none, none, none, none, none] [] 41 σ
    refine zr_iconst (pc := 62) hV 0 dX12_doNarrow_62 rfl ?_
    refine zr_istore_n (pc := 63) hV [some (ZR 0), some (ZI o), some (ZR state), some (ZI 0), none, none, none, none, none] dX12_doNarrow_63 rfl (by decide) rfl rfl ?_
    have L64 : ∀ (fuel : Nat) (x3_64 : Int) (σ_64 : zq_S), (0 ≤ x3_64 ∧ x3_64 ≤ 3) → (zx_T σ_64) → (∀ a i : Int, (a ≠ 11 ∧ a ≠ 12) → σ_64 a i = σ a i) → (zq_hid (zn_row (σ_64 state) = zw_as (zn_F (σ 0 22)) 3 (σ 6) (18 * o) x3_64 (zn_row (σ state)))) → (zq_hid (∀ a i, a ≠ state → σ_64 a i = σ a i)) → (zq_hid (zw_gd (zn_F (σ 0 22)) (zn_row (σ state)) (σ 3 o) (σ 4 o))) → (x3_64 ≤ σ 5 o) → 3 - x3_64 < (fuel : Int) → V 64 [some (ZR 0), some (ZI o), some (ZR state), some (ZI x3_64), none, none, none, none, none] [] 41 σ_64 := by
      intro fuel
      induction fuel with
      | zero =>
        intro x3_64 σ_64 hx3_64 hσ_64 hFσ_64 hi64_0 hi64_1 hi64_2 hi64_3 hm64
        exfalso; omega
      | succ fuel ih =>
        intro x3_64 σ_64 hx3_64 hσ_64 hFσ_64 hi64_0 hi64_1 hi64_2 hi64_3 hm64
        have ih64 := ih
        show V 64 [some (ZR 0), some (ZI o), some (ZR state), some (ZI x3_64), none, none, none, none, none] [] 41 σ_64
        refine zr_iload_n (pc := 64) hV dX12_doNarrow_64 rfl rfl ?_
        refine zr_aload_n (pc := 65) hV dX12_doNarrow_65 rfl rfl ?_
        refine zr_getR (pc := 66) hV 8 5 dX12_doNarrow_66 fX12_32 rfl rfl rfl (by decide) (zx_g8 hσ_64) (by omega) ?_
        refine zr_iload_n (pc := 69) hV dX12_doNarrow_69 rfl rfl ?_
        refine zr_iald (pc := 70) hV dX12_doNarrow_70 rfl (by decide) rfl (by omega) ?_
        have t2 := zx_ga5 hσ_64 o
        have t3 : σ_64 5 o = σ 5 o := hFσ_64 _ _ (by omega)
        refine zr_icmp_ge (pc := 71) hV 253 dX12_doNarrow_71 (by decide) (by omega) (by omega) (fun c4 => ?_) (fun c4 => ?_)
        · show V 253 [some (ZR 0), some (ZI o), some (ZR state), some (ZI x3_64), none, none, none, none, none] [] 41 σ_64
          exact zr_vret (pc := 253) hV dX12_doNarrow_253 rfl rfl ⟨rfl, hσ_64, hFσ_64, trivial, (show zn_row (σ_64 state) = zw_do (zn_F (σ 0 22)) 3 (σ 6) o (σ 3 o) (σ 4 o) (σ 5 o) (zn_row (σ state)) ∧ ∀ a i, a ≠ state → σ_64 a i = σ a i from ⟨by have h0 := hi64_0; unfold zq_hid at h0; rw [zw_do_y hi64_2, show σ 5 o = x3_64 by omega]; exact h0, hi64_1⟩)⟩
        · show V 74 [some (ZR 0), some (ZI o), some (ZR state), some (ZI x3_64), none, none, none, none, none] [] 41 σ_64
          refine zr_bipush (pc := 74) hV 18 dX12_doNarrow_74 (by decide) ?_
          refine zr_iload_n (pc := 76) hV dX12_doNarrow_76 rfl rfl ?_
          refine zr_imul (pc := 77) hV dX12_doNarrow_77 ?_
          refine zr_bipush (pc := 78) hV 6 dX12_doNarrow_78 (by decide) ?_
          refine zr_iload_n (pc := 80) hV dX12_doNarrow_80 rfl rfl ?_
          refine zr_imul (pc := 81) hV dX12_doNarrow_81 ?_
          refine zr_iadd (pc := 82) hV dX12_doNarrow_82 ?_
          refine zr_istore (pc := 83) hV [some (ZR 0), some (ZI o), some (ZR state), some (ZI x3_64), some (ZI ((18 * o) + (6 * x3_64))), none, none, none, none] dX12_doNarrow_83 (by decide) rfl rfl ?_
          have e22 : σ_64 0 22 = σ 0 22 := hFσ_64 0 22 (by omega)
          have ea1 : σ_64 6 ((18 * o + 6 * x3_64) + 1) = σ 6 ((18 * o + 6 * x3_64) + 1) := hFσ_64 6 _ (by omega)
          have ea2 : σ_64 6 ((18 * o + 6 * x3_64) + 2) = σ 6 ((18 * o + 6 * x3_64) + 2) := hFσ_64 6 _ (by omega)
          have ea3 : σ_64 6 ((18 * o + 6 * x3_64) + 3) = σ 6 ((18 * o + 6 * x3_64) + 3) := hFσ_64 6 _ (by omega)
          have ea4 : σ_64 6 ((18 * o + 6 * x3_64) + 4) = σ 6 ((18 * o + 6 * x3_64) + 4) := hFσ_64 6 _ (by omega)
          have ea5 : σ_64 6 ((18 * o + 6 * x3_64) + 5) = σ 6 ((18 * o + 6 * x3_64) + 5) := hFσ_64 6 _ (by omega)
          have ea0 : σ_64 6 (18 * o + 6 * x3_64) = σ 6 (18 * o + 6 * x3_64) := hFσ_64 6 _ (by omega)
          refine zr_aload_n (pc := 85) hV dX12_doNarrow_85 rfl rfl ?_
          refine zr_aload_n (pc := 86) hV dX12_doNarrow_86 rfl rfl ?_
          refine zr_aload_n (pc := 87) hV dX12_doNarrow_87 rfl rfl ?_
          refine zr_getR (pc := 88) hV 9 6 dX12_doNarrow_88 fX12_35 rfl rfl rfl (by decide) (zx_g9 hσ_64) (by omega) ?_
          refine zr_iload (pc := 91) hV dX12_doNarrow_91 rfl ?_
          refine zr_iconst (pc := 93) hV 1 dX12_doNarrow_93 rfl ?_
          refine zr_iadd (pc := 94) hV dX12_doNarrow_94 ?_
          refine zr_iald (pc := 95) hV dX12_doNarrow_95 rfl (by decide) rfl (by omega) ?_
          have t5 := zx_ac1 hσ_64 (((18 * o) + (6 * x3_64)) + 1) (by omega)
          have t6 : σ_64 6 (((18 * o) + (6 * x3_64)) + 1) = σ 6 (((18 * o) + (6 * x3_64)) + 1) := hFσ_64 _ _ (by omega)
          refine zr_aload_n (pc := 96) hV dX12_doNarrow_96 rfl rfl ?_
          refine zr_getR (pc := 97) hV 9 6 dX12_doNarrow_97 fX12_35 rfl rfl rfl (by decide) (zx_g9 hσ_64) (by omega) ?_
          refine zr_iload (pc := 100) hV dX12_doNarrow_100 rfl ?_
          refine zr_iconst (pc := 102) hV 2 dX12_doNarrow_102 rfl ?_
          refine zr_iadd (pc := 103) hV dX12_doNarrow_103 ?_
          refine zr_iald (pc := 104) hV dX12_doNarrow_104 rfl (by decide) rfl (by omega) ?_
          have t7 := zx_ac hσ_64 (((18 * o) + (6 * x3_64)) + 2)
          have t8 : σ_64 6 (((18 * o) + (6 * x3_64)) + 2) = σ 6 (((18 * o) + (6 * x3_64)) + 2) := hFσ_64 _ _ (by omega)
          have t9 := zx_g22 hσ_64
          have t10 : σ_64 0 22 = σ 0 22 := hFσ_64 _ _ (by omega)
          refine zr_callVp (pc := 105) hV [ZR state, ZI (σ_64 6 (((18 * o) + (6 * x3_64)) + 1)), ZI (σ_64 6 (((18 * o) + (6 * x3_64)) + 2))] (st := []) (c_X12_narrowOf2 (σ := σ_64) hσ_64 state (σ_64 6 (((18 * o) + (6 * x3_64)) + 1)) (σ_64 6 (((18 * o) + (6 * x3_64)) + 2)) (by omega) (by omega) (by omega) (by omega)) dX12_doNarrow_105 mX12_300 rfl (by decide) (by decide) (Nat.le_of_ble_eq_true rfl) (Nat.le_refl _) (fun r105 hr105 pr105 => ?_)
          have t11 := zx_g22 hσ_64
          have t12 : σ_64 0 22 = σ 0 22 := hFσ_64 _ _ (by omega)
          refine zr_istore (pc := 108) hV [some (ZR 0), some (ZI o), some (ZR state), some (ZI x3_64), some (ZI ((18 * o) + (6 * x3_64))), some (ZI r105), none, none, none] dX12_doNarrow_108 (by decide) rfl rfl ?_
          refine zr_aload_n (pc := 110) hV dX12_doNarrow_110 rfl rfl ?_
          refine zr_getR (pc := 111) hV 9 6 dX12_doNarrow_111 fX12_35 rfl rfl rfl (by decide) (zx_g9 hσ_64) (by omega) ?_
          refine zr_iload (pc := 114) hV dX12_doNarrow_114 rfl ?_
          refine zr_iconst (pc := 116) hV 3 dX12_doNarrow_116 rfl ?_
          refine zr_iadd (pc := 117) hV dX12_doNarrow_117 ?_
          refine zr_iald (pc := 118) hV dX12_doNarrow_118 rfl (by decide) rfl (by omega) ?_
          have t13 := zx_ac3 hσ_64 (((18 * o) + (6 * x3_64)) + 3) (by omega)
          have t14 : σ_64 6 (((18 * o) + (6 * x3_64)) + 3) = σ 6 (((18 * o) + (6 * x3_64)) + 3) := hFσ_64 _ _ (by omega)
          have J149 : ∀ (v0_149 : Int), (0 ≤ v0_149 ∧ v0_149 ≤ 255) → (zq_hid (v0_149 = (if 0 < σ 6 ((18 * o + 6 * x3_64) + 3) then zw_va (zn_F (σ 0 22)) (zn_row (σ_64 state)) 3 (σ 6 ((18 * o + 6 * x3_64) + 4)) (σ 6 ((18 * o + 6 * x3_64) + 5)) else 0))) → V 149 [some (ZR 0), some (ZI o), some (ZR state), some (ZI x3_64), some (ZI ((18 * o) + (6 * x3_64))), some (ZI r105), none, none, none] [ZI v0_149] 41 σ_64 := by
            intro v0_149 hv0_149 hi149_0
            show V 149 [some (ZR 0), some (ZI o), some (ZR state), some (ZI x3_64), some (ZI ((18 * o) + (6 * x3_64))), some (ZI r105), none, none, none] [ZI v0_149] 41 σ_64
            refine zr_istore (pc := 149) hV [some (ZR 0), some (ZI o), some (ZR state), some (ZI x3_64), some (ZI ((18 * o) + (6 * x3_64))), some (ZI r105), some (ZI v0_149), none, none] dX12_doNarrow_149 (by decide) rfl rfl ?_
            refine zr_aload_n (pc := 151) hV dX12_doNarrow_151 rfl rfl ?_
            refine zr_getR (pc := 152) hV 9 6 dX12_doNarrow_152 fX12_35 rfl rfl rfl (by decide) (zx_g9 hσ_64) (by omega) ?_
            refine zr_iload (pc := 155) hV dX12_doNarrow_155 rfl ?_
            refine zr_iconst (pc := 157) hV 3 dX12_doNarrow_157 rfl ?_
            refine zr_iadd (pc := 158) hV dX12_doNarrow_158 ?_
            refine zr_iald (pc := 159) hV dX12_doNarrow_159 rfl (by decide) rfl (by omega) ?_
            have t15 := zx_ac3 hσ_64 (((18 * o) + (6 * x3_64)) + 3) (by omega)
            have t16 : σ_64 6 (((18 * o) + (6 * x3_64)) + 3) = σ 6 (((18 * o) + (6 * x3_64)) + 3) := hFσ_64 _ _ (by omega)
            refine zr_iload (pc := 160) hV dX12_doNarrow_160 rfl ?_
            refine zr_iload (pc := 162) hV dX12_doNarrow_162 rfl ?_
            refine zr_callSp (pc := 164) hV [ZI (σ_64 6 (((18 * o) + (6 * x3_64)) + 3)), ZI r105, ZI v0_149] (st := []) (c_X12_reckon2 (σ := σ_64) (σ_64 6 (((18 * o) + (6 * x3_64)) + 3)) r105 v0_149 (by omega) (by omega) (by omega)) dX12_doNarrow_164 mX12_304 (by decide) (Nat.le_of_ble_eq_true rfl) (Nat.le_refl _) (fun r164 hr164 pr164 => ?_)
            refine zr_iconst (pc := 167) hV 3 dX12_doNarrow_167 rfl ?_
            refine zr_iand (pc := 168) hV dX12_doNarrow_168 ?_
            have t17 := zq_and_mask r164 2 3 4 (by decide) (by decide) (by decide)
            have vv5 : r105 = zw_va (zn_F (σ 0 22)) (zn_row (σ_64 state)) 3 (σ 6 ((18 * o + 6 * x3_64) + 1)) (σ 6 ((18 * o + 6 * x3_64) + 2)) := by have z := pr105.2.2; rw [e22, ea1, ea2] at z; exact z
            have vl : zq_and r164 3 = zw_vl (zn_F (σ 0 22)) (zn_row (σ_64 state)) 3 (σ 6) (18 * o + 6 * x3_64) := by unfold zw_vl; rw [← (show v0_149 = (if 0 < σ 6 ((18 * o + 6 * x3_64) + 3) then zw_va (zn_F (σ 0 22)) (zn_row (σ_64 state)) 3 (σ 6 ((18 * o + 6 * x3_64) + 4)) (σ 6 ((18 * o + 6 * x3_64) + 5)) else 0) from hi149_0), ← vv5, ← ea3]; have z := pr164; rw [z]
            refine zr_istore (pc := 169) hV [some (ZR 0), some (ZI o), some (ZR state), some (ZI x3_64), some (ZI ((18 * o) + (6 * x3_64))), some (ZI r105), some (ZI v0_149), some (ZI (zq_and r164 3)), none] dX12_doNarrow_169 (by decide) rfl rfl ?_
            refine zr_aload_n (pc := 171) hV dX12_doNarrow_171 rfl rfl ?_
            refine zr_getR (pc := 172) hV 9 6 dX12_doNarrow_172 fX12_35 rfl rfl rfl (by decide) (zx_g9 hσ_64) (by omega) ?_
            refine zr_iload (pc := 175) hV dX12_doNarrow_175 rfl ?_
            refine zr_iald (pc := 177) hV dX12_doNarrow_177 rfl (by decide) rfl (by omega) ?_
            have t18 := zx_ac0 hσ_64 ((18 * o) + (6 * x3_64)) (by omega)
            have t19 : σ_64 6 ((18 * o) + (6 * x3_64)) = σ 6 ((18 * o) + (6 * x3_64)) := hFσ_64 _ _ (by omega)
            refine zr_istore (pc := 178) hV [some (ZR 0), some (ZI o), some (ZR state), some (ZI x3_64), some (ZI ((18 * o) + (6 * x3_64))), some (ZI r105), some (ZI v0_149), some (ZI (zq_and r164 3)), some (ZI (σ_64 6 ((18 * o) + (6 * x3_64))))] dX12_doNarrow_178 (by decide) rfl rfl ?_
            refine zr_iload (pc := 180) hV dX12_doNarrow_180 rfl ?_
            refine zr_iconst (pc := 182) hV 3 dX12_doNarrow_182 rfl ?_
            refine zr_icmp_ge (pc := 183) hV 195 dX12_doNarrow_183 (by decide) (by omega) ⟨by decide, by decide⟩ (fun c20 => ?_) (fun c20 => ?_)
            · show V 195 [some (ZR 0), some (ZI o), some (ZR state), some (ZI x3_64), some (ZI ((18 * o) + (6 * x3_64))), some (ZI r105), some (ZI v0_149), some (ZI (zq_and r164 3)), some (ZI (σ_64 6 ((18 * o) + (6 * x3_64))))] [] 41 σ_64
              refine zr_iload (pc := 195) hV dX12_doNarrow_195 rfl ?_
              refine zr_iconst (pc := 197) hV 4 dX12_doNarrow_197 rfl ?_
              refine zr_icmp_ne (pc := 198) hV 217 dX12_doNarrow_198 (by decide) (by omega) ⟨by decide, by decide⟩ (fun c21 => ?_) (fun c21 => ?_)
              · show V 217 [some (ZR 0), some (ZI o), some (ZR state), some (ZI x3_64), some (ZI ((18 * o) + (6 * x3_64))), some (ZI r105), some (ZI v0_149), some (ZI (zq_and r164 3)), some (ZI (σ_64 6 ((18 * o) + (6 * x3_64))))] [] 41 σ_64
                refine zr_iload (pc := 217) hV dX12_doNarrow_217 rfl ?_
                refine zr_iconst (pc := 219) hV 5 dX12_doNarrow_219 rfl ?_
                refine zr_icmp_ne (pc := 220) hV 231 dX12_doNarrow_220 (by decide) (by omega) ⟨by decide, by decide⟩ (fun c22 => ?_) (fun c22 => ?_)
                · show V 231 [some (ZR 0), some (ZI o), some (ZR state), some (ZI x3_64), some (ZI ((18 * o) + (6 * x3_64))), some (ZI r105), some (ZI v0_149), some (ZI (zq_and r164 3)), some (ZI (σ_64 6 ((18 * o) + (6 * x3_64))))] [] 41 σ_64
                  refine zr_aload_n (pc := 231) hV dX12_doNarrow_231 rfl rfl ?_
                  refine zr_iconst (pc := 232) hV 5 dX12_doNarrow_232 rfl ?_
                  refine zr_aload_n (pc := 233) hV dX12_doNarrow_233 rfl rfl ?_
                  refine zr_aload_n (pc := 234) hV dX12_doNarrow_234 rfl rfl ?_
                  refine zr_iload (pc := 235) hV dX12_doNarrow_235 rfl ?_
                  refine zr_bipush (pc := 237) hV 6 dX12_doNarrow_237 (by decide) ?_
                  refine zr_isub (pc := 239) hV dX12_doNarrow_239 ?_
                  have t23 := zx_g22 hσ_64
                  have t24 : σ_64 0 22 = σ 0 22 := hFσ_64 _ _ (by omega)
                  refine zr_callVp (pc := 240) hV [ZR state, ZI ((σ_64 6 ((18 * o) + (6 * x3_64))) - 6)] (st := [ZI 5, ZR state]) (c_X12_narrowOfField2 (σ := σ_64) hσ_64 state ((σ_64 6 ((18 * o) + (6 * x3_64))) - 6) (by omega) (by omega) (by omega)) dX12_doNarrow_240 mX12_296 rfl (by decide) (by decide) (Nat.le_of_ble_eq_true rfl) (Nat.le_refl _) (fun r240 hr240 pr240 => ?_)
                  have t25 := zx_g22 hσ_64
                  have t26 : σ_64 0 22 = σ 0 22 := hFσ_64 _ _ (by omega)
                  refine zr_iadd (pc := 243) hV dX12_doNarrow_243 ?_
                  refine zr_iload (pc := 244) hV dX12_doNarrow_244 rfl ?_
                  refine zr_iast (pc := 246) hV dX12_doNarrow_246 (zx_nk q0) (by omega) rfl (by omega) (fun σ246 eσ246 => ?_)
                  have hσ246 : zx_T σ246 := zx_uan q0 eσ246 hσ_64 (by omega)
                  have hFσ246 : ∀ a i : Int, (a ≠ 11 ∧ a ≠ 12) → σ246 a i = σ a i := fun a i h => by rw [eσ246, zq_up_ne (by omega)]; exact hFσ_64 a i h
                  show V 247 [some (ZR 0), some (ZI o), some (ZR state), some (ZI x3_64), some (ZI ((18 * o) + (6 * x3_64))), some (ZI r105), some (ZI v0_149), some (ZI (zq_and r164 3)), some (ZI (σ_64 6 ((18 * o) + (6 * x3_64))))] [] 41 σ246
                  refine zr_iinc (pc := 247) hV [some (ZR 0), some (ZI o), some (ZR state), some (ZI (x3_64 + 1)), some (ZI ((18 * o) + (6 * x3_64))), some (ZI r105), some (ZI v0_149), some (ZI (zq_and r164 3)), some (ZI (σ_64 6 ((18 * o) + (6 * x3_64))))] (x3_64 + 1) dX12_doNarrow_247 rfl rfl (by decide) rfl rfl ?_
                  refine zr_goto (pc := 250) hV 64 dX12_doNarrow_250 (by decide) ?_
                  refine zr_sub (pc := 64) hV [some (ZR 0), some (ZI o), some (ZR state), some (ZI (x3_64 + 1)), none, none, none, none, none] (⟨rfl, rfl, rfl, rfl, trivial⟩) ?_
                  exact ih64 (x3_64 + 1) σ246 (by omega) hσ246 hFσ246 (by have h0 := hi64_0; unfold zq_hid at h0 ⊢; rw [zw_as_s (by omega), ← h0]; exact zn_dn eσ246 ⟨by omega, by omega⟩ (by have z := zn_z_b (x := 5 + r240) ⟨by omega, by omega⟩; have ad := zn_fad (i := σ 0 22) (s := σ_64 state) (w := σ 6 (18 * o + 6 * x3_64)) (f := σ 6 (18 * o + 6 * x3_64) - 6) (r := r240) ⟨by omega, by omega⟩ rfl (by have y := pr240.2.2; rw [e22, ea0] at y; exact y); unfold zw_ix; rw [if_neg (by omega), if_neg (by omega), if_neg (by omega), ad]; omega) (by rw [← vl]; unfold zw_nv; rw [if_neg (by omega), if_neg (by omega)])) (fun a i h => by rw [eσ246, zq_up_ne (by omega)]; exact hi64_1 a i h) hi64_2 (by omega) (by omega)
                · show V 223 [some (ZR 0), some (ZI o), some (ZR state), some (ZI x3_64), some (ZI ((18 * o) + (6 * x3_64))), some (ZI r105), some (ZI v0_149), some (ZI (zq_and r164 3)), some (ZI (σ_64 6 ((18 * o) + (6 * x3_64))))] [] 41 σ_64
                  refine zr_aload_n (pc := 223) hV dX12_doNarrow_223 rfl rfl ?_
                  refine zr_iconst (pc := 224) hV 4 dX12_doNarrow_224 rfl ?_
                  refine zr_iload (pc := 225) hV dX12_doNarrow_225 rfl ?_
                  refine zr_iast (pc := 227) hV dX12_doNarrow_227 (zx_nk q0) (by omega) rfl (by omega) (fun σ227 eσ227 => ?_)
                  have hσ227 : zx_T σ227 := zx_uan q0 eσ227 hσ_64 (by omega)
                  have hFσ227 : ∀ a i : Int, (a ≠ 11 ∧ a ≠ 12) → σ227 a i = σ a i := fun a i h => by rw [eσ227, zq_up_ne (by omega)]; exact hFσ_64 a i h
                  refine zr_goto (pc := 228) hV 247 dX12_doNarrow_228 (by decide) ?_
                  show V 247 [some (ZR 0), some (ZI o), some (ZR state), some (ZI x3_64), some (ZI ((18 * o) + (6 * x3_64))), some (ZI r105), some (ZI v0_149), some (ZI (zq_and r164 3)), some (ZI (σ_64 6 ((18 * o) + (6 * x3_64))))] [] 41 σ227
                  refine zr_iinc (pc := 247) hV [some (ZR 0), some (ZI o), some (ZR state), some (ZI (x3_64 + 1)), some (ZI ((18 * o) + (6 * x3_64))), some (ZI r105), some (ZI v0_149), some (ZI (zq_and r164 3)), some (ZI (σ_64 6 ((18 * o) + (6 * x3_64))))] (x3_64 + 1) dX12_doNarrow_247 rfl rfl (by decide) rfl rfl ?_
                  refine zr_goto (pc := 250) hV 64 dX12_doNarrow_250 (by decide) ?_
                  refine zr_sub (pc := 64) hV [some (ZR 0), some (ZI o), some (ZR state), some (ZI (x3_64 + 1)), none, none, none, none, none] (⟨rfl, rfl, rfl, rfl, trivial⟩) ?_
                  exact ih64 (x3_64 + 1) σ227 (by omega) hσ227 hFσ227 (by have h0 := hi64_0; unfold zq_hid at h0 ⊢; rw [zw_as_s (by omega), ← h0]; exact zn_dn eσ227 ⟨by omega, by omega⟩ (by unfold zw_ix; rw [if_neg (by omega), if_neg (by omega), if_pos (by omega)]; rfl) (by rw [← vl]; unfold zw_nv; rw [if_neg (by omega), if_pos (by omega)]; omega)) (fun a i h => by rw [eσ227, zq_up_ne (by omega)]; exact hi64_1 a i h) hi64_2 (by omega) (by omega)
              · show V 201 [some (ZR 0), some (ZI o), some (ZR state), some (ZI x3_64), some (ZI ((18 * o) + (6 * x3_64))), some (ZI r105), some (ZI v0_149), some (ZI (zq_and r164 3)), some (ZI (σ_64 6 ((18 * o) + (6 * x3_64))))] [] 41 σ_64
                refine zr_aload_n (pc := 201) hV dX12_doNarrow_201 rfl rfl ?_
                refine zr_iconst (pc := 202) hV 3 dX12_doNarrow_202 rfl ?_
                refine zr_iload (pc := 203) hV dX12_doNarrow_203 rfl ?_
                refine zr_if_eq (pc := 205) hV 212 dX12_doNarrow_205 (by decide) (by omega) (fun c27 => ?_) (fun c27 => ?_)
                · show V 212 [some (ZR 0), some (ZI o), some (ZR state), some (ZI x3_64), some (ZI ((18 * o) + (6 * x3_64))), some (ZI r105), some (ZI v0_149), some (ZI (zq_and r164 3)), some (ZI (σ_64 6 ((18 * o) + (6 * x3_64))))] [ZI 3, ZR state] 41 σ_64
                  refine zr_iconst (pc := 212) hV 0 dX12_doNarrow_212 rfl ?_
                  show V 213 [some (ZR 0), some (ZI o), some (ZR state), some (ZI x3_64), some (ZI ((18 * o) + (6 * x3_64))), some (ZI r105), some (ZI v0_149), some (ZI (zq_and r164 3)), some (ZI (σ_64 6 ((18 * o) + (6 * x3_64))))] [ZI 0, ZI 3, ZR state] 41 σ_64
                  refine zr_iast (pc := 213) hV dX12_doNarrow_213 (zx_nk q0) (by omega) rfl (by omega) (fun σ213 eσ213 => ?_)
                  have hσ213 : zx_T σ213 := zx_uan q0 eσ213 hσ_64 (by omega)
                  have hFσ213 : ∀ a i : Int, (a ≠ 11 ∧ a ≠ 12) → σ213 a i = σ a i := fun a i h => by rw [eσ213, zq_up_ne (by omega)]; exact hFσ_64 a i h
                  refine zr_goto (pc := 214) hV 247 dX12_doNarrow_214 (by decide) ?_
                  show V 247 [some (ZR 0), some (ZI o), some (ZR state), some (ZI x3_64), some (ZI ((18 * o) + (6 * x3_64))), some (ZI r105), some (ZI v0_149), some (ZI (zq_and r164 3)), some (ZI (σ_64 6 ((18 * o) + (6 * x3_64))))] [] 41 σ213
                  refine zr_iinc (pc := 247) hV [some (ZR 0), some (ZI o), some (ZR state), some (ZI (x3_64 + 1)), some (ZI ((18 * o) + (6 * x3_64))), some (ZI r105), some (ZI v0_149), some (ZI (zq_and r164 3)), some (ZI (σ_64 6 ((18 * o) + (6 * x3_64))))] (x3_64 + 1) dX12_doNarrow_247 rfl rfl (by decide) rfl rfl ?_
                  refine zr_goto (pc := 250) hV 64 dX12_doNarrow_250 (by decide) ?_
                  refine zr_sub (pc := 64) hV [some (ZR 0), some (ZI o), some (ZR state), some (ZI (x3_64 + 1)), none, none, none, none, none] (⟨rfl, rfl, rfl, rfl, trivial⟩) ?_
                  exact ih64 (x3_64 + 1) σ213 (by omega) hσ213 hFσ213 (by have h0 := hi64_0; unfold zq_hid at h0 ⊢; rw [zw_as_s (by omega), ← h0]; exact zn_dn eσ213 ⟨by omega, by omega⟩ (by unfold zw_ix; rw [if_neg (by omega), if_pos (by omega)]; rfl) (by rw [← vl]; unfold zw_nv; rw [if_pos (by omega)]; first | rw [if_pos (by omega)] | rw [if_neg (by omega)])) (fun a i h => by rw [eσ213, zq_up_ne (by omega)]; exact hi64_1 a i h) hi64_2 (by omega) (by omega)
                · show V 208 [some (ZR 0), some (ZI o), some (ZR state), some (ZI x3_64), some (ZI ((18 * o) + (6 * x3_64))), some (ZI r105), some (ZI v0_149), some (ZI (zq_and r164 3)), some (ZI (σ_64 6 ((18 * o) + (6 * x3_64))))] [ZI 3, ZR state] 41 σ_64
                  refine zr_iconst (pc := 208) hV 1 dX12_doNarrow_208 rfl ?_
                  refine zr_goto (pc := 209) hV 213 dX12_doNarrow_209 (by decide) ?_
                  show V 213 [some (ZR 0), some (ZI o), some (ZR state), some (ZI x3_64), some (ZI ((18 * o) + (6 * x3_64))), some (ZI r105), some (ZI v0_149), some (ZI (zq_and r164 3)), some (ZI (σ_64 6 ((18 * o) + (6 * x3_64))))] [ZI 1, ZI 3, ZR state] 41 σ_64
                  refine zr_iast (pc := 213) hV dX12_doNarrow_213 (zx_nk q0) (by omega) rfl (by omega) (fun σ213 eσ213 => ?_)
                  have hσ213 : zx_T σ213 := zx_uan q0 eσ213 hσ_64 (by omega)
                  have hFσ213 : ∀ a i : Int, (a ≠ 11 ∧ a ≠ 12) → σ213 a i = σ a i := fun a i h => by rw [eσ213, zq_up_ne (by omega)]; exact hFσ_64 a i h
                  refine zr_goto (pc := 214) hV 247 dX12_doNarrow_214 (by decide) ?_
                  show V 247 [some (ZR 0), some (ZI o), some (ZR state), some (ZI x3_64), some (ZI ((18 * o) + (6 * x3_64))), some (ZI r105), some (ZI v0_149), some (ZI (zq_and r164 3)), some (ZI (σ_64 6 ((18 * o) + (6 * x3_64))))] [] 41 σ213
                  refine zr_iinc (pc := 247) hV [some (ZR 0), some (ZI o), some (ZR state), some (ZI (x3_64 + 1)), some (ZI ((18 * o) + (6 * x3_64))), some (ZI r105), some (ZI v0_149), some (ZI (zq_and r164 3)), some (ZI (σ_64 6 ((18 * o) + (6 * x3_64))))] (x3_64 + 1) dX12_doNarrow_247 rfl rfl (by decide) rfl rfl ?_
                  refine zr_goto (pc := 250) hV 64 dX12_doNarrow_250 (by decide) ?_
                  refine zr_sub (pc := 64) hV [some (ZR 0), some (ZI o), some (ZR state), some (ZI (x3_64 + 1)), none, none, none, none, none] (⟨rfl, rfl, rfl, rfl, trivial⟩) ?_
                  exact ih64 (x3_64 + 1) σ213 (by omega) hσ213 hFσ213 (by have h0 := hi64_0; unfold zq_hid at h0 ⊢; rw [zw_as_s (by omega), ← h0]; exact zn_dn eσ213 ⟨by omega, by omega⟩ (by unfold zw_ix; rw [if_neg (by omega), if_pos (by omega)]; rfl) (by rw [← vl]; unfold zw_nv; rw [if_pos (by omega)]; first | rw [if_pos (by omega)] | rw [if_neg (by omega)])) (fun a i h => by rw [eσ213, zq_up_ne (by omega)]; exact hi64_1 a i h) hi64_2 (by omega) (by omega)
            · show V 186 [some (ZR 0), some (ZI o), some (ZR state), some (ZI x3_64), some (ZI ((18 * o) + (6 * x3_64))), some (ZI r105), some (ZI v0_149), some (ZI (zq_and r164 3)), some (ZI (σ_64 6 ((18 * o) + (6 * x3_64))))] [] 41 σ_64
              refine zr_aload_n (pc := 186) hV dX12_doNarrow_186 rfl rfl ?_
              refine zr_iload (pc := 187) hV dX12_doNarrow_187 rfl ?_
              refine zr_iload (pc := 189) hV dX12_doNarrow_189 rfl ?_
              refine zr_iast (pc := 191) hV dX12_doNarrow_191 (zx_nk q0) (by omega) rfl (by omega) (fun σ191 eσ191 => ?_)
              have hσ191 : zx_T σ191 := zx_uan q0 eσ191 hσ_64 (by omega)
              have hFσ191 : ∀ a i : Int, (a ≠ 11 ∧ a ≠ 12) → σ191 a i = σ a i := fun a i h => by rw [eσ191, zq_up_ne (by omega)]; exact hFσ_64 a i h
              refine zr_goto (pc := 192) hV 247 dX12_doNarrow_192 (by decide) ?_
              show V 247 [some (ZR 0), some (ZI o), some (ZR state), some (ZI x3_64), some (ZI ((18 * o) + (6 * x3_64))), some (ZI r105), some (ZI v0_149), some (ZI (zq_and r164 3)), some (ZI (σ_64 6 ((18 * o) + (6 * x3_64))))] [] 41 σ191
              refine zr_iinc (pc := 247) hV [some (ZR 0), some (ZI o), some (ZR state), some (ZI (x3_64 + 1)), some (ZI ((18 * o) + (6 * x3_64))), some (ZI r105), some (ZI v0_149), some (ZI (zq_and r164 3)), some (ZI (σ_64 6 ((18 * o) + (6 * x3_64))))] (x3_64 + 1) dX12_doNarrow_247 rfl rfl (by decide) rfl rfl ?_
              refine zr_goto (pc := 250) hV 64 dX12_doNarrow_250 (by decide) ?_
              refine zr_sub (pc := 64) hV [some (ZR 0), some (ZI o), some (ZR state), some (ZI (x3_64 + 1)), none, none, none, none, none] (⟨rfl, rfl, rfl, rfl, trivial⟩) ?_
              exact ih64 (x3_64 + 1) σ191 (by omega) hσ191 hFσ191 (by have h0 := hi64_0; unfold zq_hid at h0 ⊢; rw [zw_as_s (by omega), ← h0]; exact zn_dn eσ191 ⟨by omega, by omega⟩ (by rw [ea0]; unfold zw_ix zn_z; rw [if_pos (by omega), if_pos (by omega), zn_F_o (by omega)]) (by rw [← vl]; unfold zw_nv; rw [if_neg (by omega), if_neg (by omega)])) (fun a i h => by rw [eσ191, zq_up_ne (by omega)]; exact hi64_1 a i h) hi64_2 (by omega) (by omega)
          refine zr_if_le (pc := 119) hV 148 dX12_doNarrow_119 (by decide) (by omega) (fun c28 => ?_) (fun c28 => ?_)
          · show V 148 [some (ZR 0), some (ZI o), some (ZR state), some (ZI x3_64), some (ZI ((18 * o) + (6 * x3_64))), some (ZI r105), none, none, none] [] 41 σ_64
            refine zr_iconst (pc := 148) hV 0 dX12_doNarrow_148 rfl ?_
            exact J149 0 (by omega) (by unfold zq_hid; rw [if_neg (by omega)])
          · show V 122 [some (ZR 0), some (ZI o), some (ZR state), some (ZI x3_64), some (ZI ((18 * o) + (6 * x3_64))), some (ZI r105), none, none, none] [] 41 σ_64
            refine zr_aload_n (pc := 122) hV dX12_doNarrow_122 rfl rfl ?_
            refine zr_aload_n (pc := 123) hV dX12_doNarrow_123 rfl rfl ?_
            refine zr_aload_n (pc := 124) hV dX12_doNarrow_124 rfl rfl ?_
            refine zr_getR (pc := 125) hV 9 6 dX12_doNarrow_125 fX12_35 rfl rfl rfl (by decide) (zx_g9 hσ_64) (by omega) ?_
            refine zr_iload (pc := 128) hV dX12_doNarrow_128 rfl ?_
            refine zr_iconst (pc := 130) hV 4 dX12_doNarrow_130 rfl ?_
            refine zr_iadd (pc := 131) hV dX12_doNarrow_131 ?_
            refine zr_iald (pc := 132) hV dX12_doNarrow_132 rfl (by decide) rfl (by omega) ?_
            have t29 := zx_ac4 hσ_64 (((18 * o) + (6 * x3_64)) + 4) (by omega)
            have t30 : σ_64 6 (((18 * o) + (6 * x3_64)) + 4) = σ 6 (((18 * o) + (6 * x3_64)) + 4) := hFσ_64 _ _ (by omega)
            have za := q3 x3_64 (by omega) (by omega)
            refine zr_aload_n (pc := 133) hV dX12_doNarrow_133 rfl rfl ?_
            refine zr_getR (pc := 134) hV 9 6 dX12_doNarrow_134 fX12_35 rfl rfl rfl (by decide) (zx_g9 hσ_64) (by omega) ?_
            refine zr_iload (pc := 137) hV dX12_doNarrow_137 rfl ?_
            refine zr_iconst (pc := 139) hV 5 dX12_doNarrow_139 rfl ?_
            refine zr_iadd (pc := 140) hV dX12_doNarrow_140 ?_
            refine zr_iald (pc := 141) hV dX12_doNarrow_141 rfl (by decide) rfl (by omega) ?_
            have t31 := zx_ac hσ_64 (((18 * o) + (6 * x3_64)) + 5)
            have t32 : σ_64 6 (((18 * o) + (6 * x3_64)) + 5) = σ 6 (((18 * o) + (6 * x3_64)) + 5) := hFσ_64 _ _ (by omega)
            have t33 := zx_g22 hσ_64
            have t34 : σ_64 0 22 = σ 0 22 := hFσ_64 _ _ (by omega)
            refine zr_callVp (pc := 142) hV [ZR state, ZI (σ_64 6 (((18 * o) + (6 * x3_64)) + 4)), ZI (σ_64 6 (((18 * o) + (6 * x3_64)) + 5))] (st := []) (c_X12_narrowOf2 (σ := σ_64) hσ_64 state (σ_64 6 (((18 * o) + (6 * x3_64)) + 4)) (σ_64 6 (((18 * o) + (6 * x3_64)) + 5)) (by omega) (by omega) (by omega) (by omega)) dX12_doNarrow_142 mX12_300 rfl (by decide) (by decide) (Nat.le_of_ble_eq_true rfl) (Nat.le_refl _) (fun r142 hr142 pr142 => ?_)
            have t35 := zx_g22 hσ_64
            have t36 : σ_64 0 22 = σ 0 22 := hFσ_64 _ _ (by omega)
            refine zr_goto (pc := 145) hV 149 dX12_doNarrow_145 (by decide) ?_
            exact J149 r142 (by omega) (by unfold zq_hid; rw [if_pos (by omega)]; have z := pr142.2.2; rw [e22, ea4, ea5] at z; exact z)
    exact L64 (3 - (0 : Int) + 1 : Int).toNat 0 σ (by omega) hσ (fun a i _ => rfl) (by unfold zq_hid; rw [zw_as_0]) (fun _ _ _ => rfl) hi62_0 (by omega) (by omega)
  refine zr_if_le (pc := 6) hV 62 dX12_doNarrow_6 (by decide) (by omega) (fun c37 => ?_) (fun c37 => ?_)
  · have t38 := zx_g22 hσ
    exact J62 (by unfold zq_hid zw_gd; first | exact Or.inl (by omega) | exact Or.inr (by rw [if_pos (by omega), zn_row_Z]; omega) | exact Or.inr (by rw [if_neg (by omega), zn_F_o (by omega), zn_row_r (by omega)]; omega))
  · show V 9 [some (ZR 0), some (ZI o), some (ZR state), none, none, none, none, none, none] [] 41 σ
    refine zr_aload_n (pc := 9) hV dX12_doNarrow_9 rfl rfl ?_
    refine zr_getR (pc := 10) hV 7 4 dX12_doNarrow_10 fX12_29 rfl rfl rfl (by decide) (zx_g7 hσ) (by omega) ?_
    refine zr_iload_n (pc := 13) hV dX12_doNarrow_13 rfl rfl ?_
    refine zr_iald (pc := 14) hV dX12_doNarrow_14 rfl (by decide) rfl (by omega) ?_
    have t39 := zx_ga4 hσ o
    refine zr_iconst (pc := 15) hV 4 dX12_doNarrow_15 rfl ?_
    refine zr_icmp_ne (pc := 16) hV 25 dX12_doNarrow_16 (by decide) (by omega) ⟨by decide, by decide⟩ (fun c40 => ?_) (fun c40 => ?_)
    · show V 25 [some (ZR 0), some (ZI o), some (ZR state), none, none, none, none, none, none] [] 41 σ
      refine zr_aload_n (pc := 25) hV dX12_doNarrow_25 rfl rfl ?_
      refine zr_aload_n (pc := 26) hV dX12_doNarrow_26 rfl rfl ?_
      refine zr_getR (pc := 27) hV 7 4 dX12_doNarrow_27 fX12_29 rfl rfl rfl (by decide) (zx_g7 hσ) (by omega) ?_
      refine zr_iload_n (pc := 30) hV dX12_doNarrow_30 rfl rfl ?_
      refine zr_iald (pc := 31) hV dX12_doNarrow_31 rfl (by decide) rfl (by omega) ?_
      have t41 := zx_ga4 hσ o
      refine zr_iald (pc := 32) hV dX12_doNarrow_32 (zx_nk q0) (by omega) rfl (by omega) ?_
      have t42 := zx_gan q0 hσ (σ 4 o)
      show V 33 [some (ZR 0), some (ZI o), some (ZR state), none, none, none, none, none, none] [ZI (σ state (σ 4 o))] 41 σ
      refine zr_istore_n (pc := 33) hV [some (ZR 0), some (ZI o), some (ZR state), some (ZI (σ state (σ 4 o))), none, none, none, none, none] dX12_doNarrow_33 rfl (by decide) rfl rfl ?_
      refine zr_iload_n (pc := 34) hV dX12_doNarrow_34 rfl rfl ?_
      refine zr_if_eq (pc := 35) hV 42 dX12_doNarrow_35 (by decide) (by omega) (fun c43 => ?_) (fun c43 => ?_)
      · show V 42 [some (ZR 0), some (ZI o), some (ZR state), some (ZI (σ state (σ 4 o))), none, none, none, none, none] [] 41 σ
        refine zr_iconst (pc := 42) hV 0 dX12_doNarrow_42 rfl ?_
        show V 43 [some (ZR 0), some (ZI o), some (ZR state), some (ZI (σ state (σ 4 o))), none, none, none, none, none] [ZI 0] 41 σ
        refine zr_aload_n (pc := 43) hV dX12_doNarrow_43 rfl rfl ?_
        refine zr_getR (pc := 44) hV 6 3 dX12_doNarrow_44 fX12_26 rfl rfl rfl (by decide) (zx_g6 hσ) (by omega) ?_
        refine zr_iload_n (pc := 47) hV dX12_doNarrow_47 rfl rfl ?_
        refine zr_iald (pc := 48) hV dX12_doNarrow_48 rfl (by decide) rfl (by omega) ?_
        have t44 := zx_ga3 hσ o
        refine zr_iconst (pc := 49) hV 1 dX12_doNarrow_49 rfl ?_
        refine zr_icmp_ne (pc := 50) hV 57 dX12_doNarrow_50 (by decide) (by omega) ⟨by decide, by decide⟩ (fun c45 => ?_) (fun c45 => ?_)
        · show V 57 [some (ZR 0), some (ZI o), some (ZR state), some (ZI (σ state (σ 4 o))), none, none, none, none, none] [ZI 0] 41 σ
          refine zr_iconst (pc := 57) hV 0 dX12_doNarrow_57 rfl ?_
          show V 58 [some (ZR 0), some (ZI o), some (ZR state), some (ZI (σ state (σ 4 o))), none, none, none, none, none] [ZI 0, ZI 0] 41 σ
          refine zr_icmp_eq (pc := 58) hV 62 dX12_doNarrow_58 (by decide) ⟨by decide, by decide⟩ ⟨by decide, by decide⟩ (fun c46 => ?_) (fun c46 => ?_)
          · have t47 := zx_g22 hσ
            refine zr_sub (pc := 62) hV [some (ZR 0), some (ZI o), some (ZR state), none, none, none, none, none, none] (⟨rfl, rfl, rfl, trivial⟩) ?_
            exact J62 (by unfold zq_hid zw_gd; first | exact Or.inl (by omega) | exact Or.inr (by rw [if_pos (by omega), zn_row_Z]; omega) | exact Or.inr (by rw [if_neg (by omega), zn_F_o (by omega), zn_row_r (by omega)]; omega))
          · exfalso; omega
        · show V 53 [some (ZR 0), some (ZI o), some (ZR state), some (ZI (σ state (σ 4 o))), none, none, none, none, none] [ZI 0] 41 σ
          refine zr_iconst (pc := 53) hV 1 dX12_doNarrow_53 rfl ?_
          refine zr_goto (pc := 54) hV 58 dX12_doNarrow_54 (by decide) ?_
          show V 58 [some (ZR 0), some (ZI o), some (ZR state), some (ZI (σ state (σ 4 o))), none, none, none, none, none] [ZI 1, ZI 0] 41 σ
          refine zr_icmp_eq (pc := 58) hV 62 dX12_doNarrow_58 (by decide) ⟨by decide, by decide⟩ ⟨by decide, by decide⟩ (fun c48 => ?_) (fun c48 => ?_)
          · exfalso; omega
          · show V 61 [some (ZR 0), some (ZI o), some (ZR state), some (ZI (σ state (σ 4 o))), none, none, none, none, none] [] 41 σ
            exact zr_vret (pc := 61) hV dX12_doNarrow_61 rfl rfl ⟨rfl, hσ, (fun a i _ => rfl), trivial, (show zn_row (σ state) = zw_do (zn_F (σ 0 22)) 3 (σ 6) o (σ 3 o) (σ 4 o) (σ 5 o) (zn_row (σ state)) ∧ ∀ a i, a ≠ state → σ a i = σ a i from ⟨by rw [zw_do_n (fun q => by rcases q with q | q; omega; first | (rw [if_pos (by omega), zn_row_Z] at q; omega) | (rw [if_neg (by omega), zn_F_o (by omega), zn_row_r (by omega)] at q; omega))], fun _ _ _ => rfl⟩)⟩
      · show V 38 [some (ZR 0), some (ZI o), some (ZR state), some (ZI (σ state (σ 4 o))), none, none, none, none, none] [] 41 σ
        refine zr_iconst (pc := 38) hV 1 dX12_doNarrow_38 rfl ?_
        refine zr_goto (pc := 39) hV 43 dX12_doNarrow_39 (by decide) ?_
        show V 43 [some (ZR 0), some (ZI o), some (ZR state), some (ZI (σ state (σ 4 o))), none, none, none, none, none] [ZI 1] 41 σ
        refine zr_aload_n (pc := 43) hV dX12_doNarrow_43 rfl rfl ?_
        refine zr_getR (pc := 44) hV 6 3 dX12_doNarrow_44 fX12_26 rfl rfl rfl (by decide) (zx_g6 hσ) (by omega) ?_
        refine zr_iload_n (pc := 47) hV dX12_doNarrow_47 rfl rfl ?_
        refine zr_iald (pc := 48) hV dX12_doNarrow_48 rfl (by decide) rfl (by omega) ?_
        have t49 := zx_ga3 hσ o
        refine zr_iconst (pc := 49) hV 1 dX12_doNarrow_49 rfl ?_
        refine zr_icmp_ne (pc := 50) hV 57 dX12_doNarrow_50 (by decide) (by omega) ⟨by decide, by decide⟩ (fun c50 => ?_) (fun c50 => ?_)
        · show V 57 [some (ZR 0), some (ZI o), some (ZR state), some (ZI (σ state (σ 4 o))), none, none, none, none, none] [ZI 1] 41 σ
          refine zr_iconst (pc := 57) hV 0 dX12_doNarrow_57 rfl ?_
          show V 58 [some (ZR 0), some (ZI o), some (ZR state), some (ZI (σ state (σ 4 o))), none, none, none, none, none] [ZI 0, ZI 1] 41 σ
          refine zr_icmp_eq (pc := 58) hV 62 dX12_doNarrow_58 (by decide) ⟨by decide, by decide⟩ ⟨by decide, by decide⟩ (fun c51 => ?_) (fun c51 => ?_)
          · exfalso; omega
          · show V 61 [some (ZR 0), some (ZI o), some (ZR state), some (ZI (σ state (σ 4 o))), none, none, none, none, none] [] 41 σ
            exact zr_vret (pc := 61) hV dX12_doNarrow_61 rfl rfl ⟨rfl, hσ, (fun a i _ => rfl), trivial, (show zn_row (σ state) = zw_do (zn_F (σ 0 22)) 3 (σ 6) o (σ 3 o) (σ 4 o) (σ 5 o) (zn_row (σ state)) ∧ ∀ a i, a ≠ state → σ a i = σ a i from ⟨by rw [zw_do_n (fun q => by rcases q with q | q; omega; first | (rw [if_pos (by omega), zn_row_Z] at q; omega) | (rw [if_neg (by omega), zn_F_o (by omega), zn_row_r (by omega)] at q; omega))], fun _ _ _ => rfl⟩)⟩
        · show V 53 [some (ZR 0), some (ZI o), some (ZR state), some (ZI (σ state (σ 4 o))), none, none, none, none, none] [ZI 1] 41 σ
          refine zr_iconst (pc := 53) hV 1 dX12_doNarrow_53 rfl ?_
          refine zr_goto (pc := 54) hV 58 dX12_doNarrow_54 (by decide) ?_
          show V 58 [some (ZR 0), some (ZI o), some (ZR state), some (ZI (σ state (σ 4 o))), none, none, none, none, none] [ZI 1, ZI 1] 41 σ
          refine zr_icmp_eq (pc := 58) hV 62 dX12_doNarrow_58 (by decide) ⟨by decide, by decide⟩ ⟨by decide, by decide⟩ (fun c52 => ?_) (fun c52 => ?_)
          · have t53 := zx_g22 hσ
            refine zr_sub (pc := 62) hV [some (ZR 0), some (ZI o), some (ZR state), none, none, none, none, none, none] (⟨rfl, rfl, rfl, trivial⟩) ?_
            exact J62 (by unfold zq_hid zw_gd; first | exact Or.inl (by omega) | exact Or.inr (by rw [if_pos (by omega), zn_row_Z]; omega) | exact Or.inr (by rw [if_neg (by omega), zn_F_o (by omega), zn_row_r (by omega)]; omega))
          · exfalso; omega
    · show V 19 [some (ZR 0), some (ZI o), some (ZR state), none, none, none, none, none, none] [] 41 σ
      refine zr_aload_n (pc := 19) hV dX12_doNarrow_19 rfl rfl ?_
      refine zr_iconst (pc := 20) hV 3 dX12_doNarrow_20 rfl ?_
      refine zr_iald (pc := 21) hV dX12_doNarrow_21 (zx_nk q0) (by omega) rfl (by omega) ?_
      have t54 := zx_gan q0 hσ 3
      refine zr_goto (pc := 22) hV 33 dX12_doNarrow_22 (by decide) ?_
      show V 33 [some (ZR 0), some (ZI o), some (ZR state), none, none, none, none, none, none] [ZI (σ state 3)] 41 σ
      refine zr_istore_n (pc := 33) hV [some (ZR 0), some (ZI o), some (ZR state), some (ZI (σ state 3)), none, none, none, none, none] dX12_doNarrow_33 rfl (by decide) rfl rfl ?_
      refine zr_iload_n (pc := 34) hV dX12_doNarrow_34 rfl rfl ?_
      refine zr_if_eq (pc := 35) hV 42 dX12_doNarrow_35 (by decide) (by omega) (fun c55 => ?_) (fun c55 => ?_)
      · show V 42 [some (ZR 0), some (ZI o), some (ZR state), some (ZI (σ state 3)), none, none, none, none, none] [] 41 σ
        refine zr_iconst (pc := 42) hV 0 dX12_doNarrow_42 rfl ?_
        show V 43 [some (ZR 0), some (ZI o), some (ZR state), some (ZI (σ state 3)), none, none, none, none, none] [ZI 0] 41 σ
        refine zr_aload_n (pc := 43) hV dX12_doNarrow_43 rfl rfl ?_
        refine zr_getR (pc := 44) hV 6 3 dX12_doNarrow_44 fX12_26 rfl rfl rfl (by decide) (zx_g6 hσ) (by omega) ?_
        refine zr_iload_n (pc := 47) hV dX12_doNarrow_47 rfl rfl ?_
        refine zr_iald (pc := 48) hV dX12_doNarrow_48 rfl (by decide) rfl (by omega) ?_
        have t56 := zx_ga3 hσ o
        refine zr_iconst (pc := 49) hV 1 dX12_doNarrow_49 rfl ?_
        refine zr_icmp_ne (pc := 50) hV 57 dX12_doNarrow_50 (by decide) (by omega) ⟨by decide, by decide⟩ (fun c57 => ?_) (fun c57 => ?_)
        · show V 57 [some (ZR 0), some (ZI o), some (ZR state), some (ZI (σ state 3)), none, none, none, none, none] [ZI 0] 41 σ
          refine zr_iconst (pc := 57) hV 0 dX12_doNarrow_57 rfl ?_
          show V 58 [some (ZR 0), some (ZI o), some (ZR state), some (ZI (σ state 3)), none, none, none, none, none] [ZI 0, ZI 0] 41 σ
          refine zr_icmp_eq (pc := 58) hV 62 dX12_doNarrow_58 (by decide) ⟨by decide, by decide⟩ ⟨by decide, by decide⟩ (fun c58 => ?_) (fun c58 => ?_)
          · have t59 := zx_g22 hσ
            refine zr_sub (pc := 62) hV [some (ZR 0), some (ZI o), some (ZR state), none, none, none, none, none, none] (⟨rfl, rfl, rfl, trivial⟩) ?_
            exact J62 (by unfold zq_hid zw_gd; first | exact Or.inl (by omega) | exact Or.inr (by rw [if_pos (by omega), zn_row_Z]; omega) | exact Or.inr (by rw [if_neg (by omega), zn_F_o (by omega), zn_row_r (by omega)]; omega))
          · exfalso; omega
        · show V 53 [some (ZR 0), some (ZI o), some (ZR state), some (ZI (σ state 3)), none, none, none, none, none] [ZI 0] 41 σ
          refine zr_iconst (pc := 53) hV 1 dX12_doNarrow_53 rfl ?_
          refine zr_goto (pc := 54) hV 58 dX12_doNarrow_54 (by decide) ?_
          show V 58 [some (ZR 0), some (ZI o), some (ZR state), some (ZI (σ state 3)), none, none, none, none, none] [ZI 1, ZI 0] 41 σ
          refine zr_icmp_eq (pc := 58) hV 62 dX12_doNarrow_58 (by decide) ⟨by decide, by decide⟩ ⟨by decide, by decide⟩ (fun c60 => ?_) (fun c60 => ?_)
          · exfalso; omega
          · show V 61 [some (ZR 0), some (ZI o), some (ZR state), some (ZI (σ state 3)), none, none, none, none, none] [] 41 σ
            exact zr_vret (pc := 61) hV dX12_doNarrow_61 rfl rfl ⟨rfl, hσ, (fun a i _ => rfl), trivial, (show zn_row (σ state) = zw_do (zn_F (σ 0 22)) 3 (σ 6) o (σ 3 o) (σ 4 o) (σ 5 o) (zn_row (σ state)) ∧ ∀ a i, a ≠ state → σ a i = σ a i from ⟨by rw [zw_do_n (fun q => by rcases q with q | q; omega; first | (rw [if_pos (by omega), zn_row_Z] at q; omega) | (rw [if_neg (by omega), zn_F_o (by omega), zn_row_r (by omega)] at q; omega))], fun _ _ _ => rfl⟩)⟩
      · show V 38 [some (ZR 0), some (ZI o), some (ZR state), some (ZI (σ state 3)), none, none, none, none, none] [] 41 σ
        refine zr_iconst (pc := 38) hV 1 dX12_doNarrow_38 rfl ?_
        refine zr_goto (pc := 39) hV 43 dX12_doNarrow_39 (by decide) ?_
        show V 43 [some (ZR 0), some (ZI o), some (ZR state), some (ZI (σ state 3)), none, none, none, none, none] [ZI 1] 41 σ
        refine zr_aload_n (pc := 43) hV dX12_doNarrow_43 rfl rfl ?_
        refine zr_getR (pc := 44) hV 6 3 dX12_doNarrow_44 fX12_26 rfl rfl rfl (by decide) (zx_g6 hσ) (by omega) ?_
        refine zr_iload_n (pc := 47) hV dX12_doNarrow_47 rfl rfl ?_
        refine zr_iald (pc := 48) hV dX12_doNarrow_48 rfl (by decide) rfl (by omega) ?_
        have t61 := zx_ga3 hσ o
        refine zr_iconst (pc := 49) hV 1 dX12_doNarrow_49 rfl ?_
        refine zr_icmp_ne (pc := 50) hV 57 dX12_doNarrow_50 (by decide) (by omega) ⟨by decide, by decide⟩ (fun c62 => ?_) (fun c62 => ?_)
        · show V 57 [some (ZR 0), some (ZI o), some (ZR state), some (ZI (σ state 3)), none, none, none, none, none] [ZI 1] 41 σ
          refine zr_iconst (pc := 57) hV 0 dX12_doNarrow_57 rfl ?_
          show V 58 [some (ZR 0), some (ZI o), some (ZR state), some (ZI (σ state 3)), none, none, none, none, none] [ZI 0, ZI 1] 41 σ
          refine zr_icmp_eq (pc := 58) hV 62 dX12_doNarrow_58 (by decide) ⟨by decide, by decide⟩ ⟨by decide, by decide⟩ (fun c63 => ?_) (fun c63 => ?_)
          · exfalso; omega
          · show V 61 [some (ZR 0), some (ZI o), some (ZR state), some (ZI (σ state 3)), none, none, none, none, none] [] 41 σ
            exact zr_vret (pc := 61) hV dX12_doNarrow_61 rfl rfl ⟨rfl, hσ, (fun a i _ => rfl), trivial, (show zn_row (σ state) = zw_do (zn_F (σ 0 22)) 3 (σ 6) o (σ 3 o) (σ 4 o) (σ 5 o) (zn_row (σ state)) ∧ ∀ a i, a ≠ state → σ a i = σ a i from ⟨by rw [zw_do_n (fun q => by rcases q with q | q; omega; first | (rw [if_pos (by omega), zn_row_Z] at q; omega) | (rw [if_neg (by omega), zn_F_o (by omega), zn_row_r (by omega)] at q; omega))], fun _ _ _ => rfl⟩)⟩
        · show V 53 [some (ZR 0), some (ZI o), some (ZR state), some (ZI (σ state 3)), none, none, none, none, none] [ZI 1] 41 σ
          refine zr_iconst (pc := 53) hV 1 dX12_doNarrow_53 rfl ?_
          refine zr_goto (pc := 54) hV 58 dX12_doNarrow_54 (by decide) ?_
          show V 58 [some (ZR 0), some (ZI o), some (ZR state), some (ZI (σ state 3)), none, none, none, none, none] [ZI 1, ZI 1] 41 σ
          refine zr_icmp_eq (pc := 58) hV 62 dX12_doNarrow_58 (by decide) ⟨by decide, by decide⟩ ⟨by decide, by decide⟩ (fun c64 => ?_) (fun c64 => ?_)
          · have t65 := zx_g22 hσ
            refine zr_sub (pc := 62) hV [some (ZR 0), some (ZI o), some (ZR state), none, none, none, none, none, none] (⟨rfl, rfl, rfl, trivial⟩) ?_
            exact J62 (by unfold zq_hid zw_gd; first | exact Or.inl (by omega) | exact Or.inr (by rw [if_pos (by omega), zn_row_Z]; omega) | exact Or.inr (by rw [if_neg (by omega), zn_F_o (by omega), zn_row_r (by omega)]; omega))
          · exfalso; omega
set_option maxHeartbeats 800000 in
theorem c_X12_copyAhead2 {σ : zq_S} (hσ : zx_T σ) (to : Int) (q0 : to = 11 ∨ to = 12) : zq_C zx_w yX12_copyAhead cX12_copyAhead 3 (none) 0 0 41 41 [ZR 0, ZR to] σ (zq_pv (fun τ => zx_T τ ∧ (∀ a i : Int, (a ≠ 11 ∧ a ≠ 12) → τ a i = σ a i) ∧ (True) ∧ zq_hid ((∀ x, 0 ≤ x → x ≤ 8 → τ to x = σ 13 x) ∧ ∀ a i, a ≠ to → τ a i = σ a i))) := by
  refine zq_C_of (by decide) (Nat.le_refl _) (Nat.le_of_ble_eq_true rfl) [some (ZR 0), some (ZR to), none] rfl (fun V hV => ?_)
  show V 0 [some (ZR 0), some (ZR to), none] [] 41 σ
  refine zr_iconst (pc := 0) hV 0 dX12_copyAhead_0 rfl ?_
  refine zr_istore_n (pc := 1) hV [some (ZR 0), some (ZR to), some (ZI 0)] dX12_copyAhead_1 rfl (by decide) rfl rfl ?_
  have L2 : ∀ (fuel : Nat) (x2_2 : Int) (σ_2 : zq_S), (0 ≤ x2_2 ∧ x2_2 ≤ 9) → (zx_T σ_2) → (∀ a i : Int, (a ≠ 11 ∧ a ≠ 12) → σ_2 a i = σ a i) → (zq_hid (∀ x, 0 ≤ x → x < x2_2 → σ_2 to x = σ 13 x)) → (zq_hid (∀ a i, a ≠ to → σ_2 a i = σ a i)) → 9 - x2_2 < (fuel : Int) → V 2 [some (ZR 0), some (ZR to), some (ZI x2_2)] [] 41 σ_2 := by
    intro fuel
    induction fuel with
    | zero =>
      intro x2_2 σ_2 hx2_2 hσ_2 hFσ_2 hi2_0 hi2_1 hm2
      exfalso; omega
    | succ fuel ih =>
      intro x2_2 σ_2 hx2_2 hσ_2 hFσ_2 hi2_0 hi2_1 hm2
      have ih2 := ih
      show V 2 [some (ZR 0), some (ZR to), some (ZI x2_2)] [] 41 σ_2
      refine zr_iload_n (pc := 2) hV dX12_copyAhead_2 rfl rfl ?_
      refine zr_bipush (pc := 3) hV 9 dX12_copyAhead_3 (by decide) ?_
      refine zr_icmp_ge (pc := 5) hV 23 dX12_copyAhead_5 (by decide) (by omega) ⟨by decide, by decide⟩ (fun c1 => ?_) (fun c1 => ?_)
      · show V 23 [some (ZR 0), some (ZR to), some (ZI x2_2)] [] 41 σ_2
        exact zr_vret (pc := 23) hV dX12_copyAhead_23 rfl rfl ⟨rfl, hσ_2, hFσ_2, trivial, (show (∀ x, 0 ≤ x → x ≤ 8 → σ_2 to x = σ 13 x) ∧ ∀ a i, a ≠ to → σ_2 a i = σ a i from ⟨fun x h0x h8x => hi2_0 x h0x (by omega), hi2_1⟩)⟩
      · show V 8 [some (ZR 0), some (ZR to), some (ZI x2_2)] [] 41 σ_2
        refine zr_aload_n (pc := 8) hV dX12_copyAhead_8 rfl rfl ?_
        refine zr_iload_n (pc := 9) hV dX12_copyAhead_9 rfl rfl ?_
        refine zr_aload_n (pc := 10) hV dX12_copyAhead_10 rfl rfl ?_
        refine zr_getR (pc := 11) hV 21 13 dX12_copyAhead_11 fX12_56 rfl rfl rfl (by decide) (zx_g21 hσ_2) (by omega) ?_
        refine zr_iload_n (pc := 14) hV dX12_copyAhead_14 rfl rfl ?_
        refine zr_iald (pc := 15) hV dX12_copyAhead_15 rfl (by decide) rfl (by omega) ?_
        have t2 := zx_ga13 hσ_2 x2_2
        have t3 : σ_2 13 x2_2 = σ 13 x2_2 := hFσ_2 _ _ (by omega)
        refine zr_iast (pc := 16) hV dX12_copyAhead_16 (zx_nk q0) (by omega) rfl (by omega) (fun σ16 eσ16 => ?_)
        have hσ16 : zx_T σ16 := zx_uan q0 eσ16 hσ_2 (by omega)
        have hFσ16 : ∀ a i : Int, (a ≠ 11 ∧ a ≠ 12) → σ16 a i = σ a i := fun a i h => by rw [eσ16, zq_up_ne (by omega)]; exact hFσ_2 a i h
        refine zr_iinc (pc := 17) hV [some (ZR 0), some (ZR to), some (ZI (x2_2 + 1))] (x2_2 + 1) dX12_copyAhead_17 rfl rfl (by decide) rfl rfl ?_
        refine zr_goto (pc := 20) hV 2 dX12_copyAhead_20 (by decide) ?_
        exact ih2 (x2_2 + 1) σ16 (by omega) hσ16 hFσ16 (fun x h0x h1x => if hc : x = x2_2 then (by rw [hc, eσ16, zq_up_same]; omega) else (by rw [eσ16, zq_up_ne (by omega)]; exact hi2_0 x h0x (by omega))) (fun a i h => by rw [eσ16, zq_up_ne (by omega)]; exact hi2_1 a i h) (by omega)
  exact L2 (9 - (0 : Int) + 1 : Int).toNat 0 σ (by omega) hσ (fun a i _ => rfl) (fun x h0x h1x => absurd h1x (by omega)) (fun _ _ _ => rfl) (by omega)
set_option maxHeartbeats 800000 in
theorem c_X12_isReadBy2 {σ : zq_S} (hσ : zx_T σ) (store one other : Int) (q0 : 0 ≤ store ∧ store ≤ 8) (q1 : zq_in one) (q2 : zq_in other) : zq_C zx_w yX12_isReadBy cX12_isReadBy 5 (some .boolean) 0 0 41 41 [ZR 0, ZI store, ZI one, ZI other] σ (zq_pp σ (fun r => (r = 0 ∨ r = 1) ∧ zq_hid (r = 1 ↔ (∃ y, 0 ≤ y ∧ y ≤ 8 ∧ y ≠ store ∧ σ 11 y ≠ σ 12 y) ∨ (σ 11 store ≠ σ 12 store ∧ (σ 11 store ≠ one ∨ σ 12 store ≠ other))))) := by
  refine zq_C_of (by decide) (Nat.le_refl _) (Nat.le_of_ble_eq_true rfl) [some (ZR 0), some (ZI store), some (ZI one), some (ZI other), none] rfl (fun V hV => ?_)
  show V 0 [some (ZR 0), some (ZI store), some (ZI one), some (ZI other), none] [] 41 σ
  refine zr_iconst (pc := 0) hV 0 dX12_isReadBy_0 rfl ?_
  refine zr_istore (pc := 1) hV [some (ZR 0), some (ZI store), some (ZI one), some (ZI other), some (ZI 0)] dX12_isReadBy_1 (by decide) rfl rfl ?_
  have L3 : ∀ (fuel : Nat) (x4_3 : Int), (0 ≤ x4_3 ∧ x4_3 ≤ 9) → (zq_hid (∀ y, 0 ≤ y → y < x4_3 → y ≠ store → σ 11 y = σ 12 y)) → 9 - x4_3 < (fuel : Int) → V 3 [some (ZR 0), some (ZI store), some (ZI one), some (ZI other), some (ZI x4_3)] [] 41 σ := by
    intro fuel
    induction fuel with
    | zero =>
      intro x4_3 hx4_3 hi3_0 hm3
      exfalso; omega
    | succ fuel ih =>
      intro x4_3 hx4_3 hi3_0 hm3
      have ih3 := ih
      show V 3 [some (ZR 0), some (ZI store), some (ZI one), some (ZI other), some (ZI x4_3)] [] 41 σ
      refine zr_iload (pc := 3) hV dX12_isReadBy_3 rfl ?_
      refine zr_bipush (pc := 5) hV 9 dX12_isReadBy_5 (by decide) ?_
      refine zr_icmp_ge (pc := 7) hV 41 dX12_isReadBy_7 (by decide) (by omega) ⟨by decide, by decide⟩ (fun c1 => ?_) (fun c1 => ?_)
      · show V 41 [some (ZR 0), some (ZI store), some (ZI one), some (ZI other), some (ZI x4_3)] [] 41 σ
        refine zr_aload_n (pc := 41) hV dX12_isReadBy_41 rfl rfl ?_
        refine zr_getR (pc := 42) hV 19 11 dX12_isReadBy_42 fX12_50 rfl rfl rfl (by decide) (zx_g19 hσ) (by omega) ?_
        refine zr_iload_n (pc := 45) hV dX12_isReadBy_45 rfl rfl ?_
        refine zr_iald (pc := 46) hV dX12_isReadBy_46 rfl (by decide) rfl (by omega) ?_
        have t2 := zx_ga11 hσ store
        refine zr_aload_n (pc := 47) hV dX12_isReadBy_47 rfl rfl ?_
        refine zr_getR (pc := 48) hV 20 12 dX12_isReadBy_48 fX12_53 rfl rfl rfl (by decide) (zx_g20 hσ) (by omega) ?_
        refine zr_iload_n (pc := 51) hV dX12_isReadBy_51 rfl rfl ?_
        refine zr_iald (pc := 52) hV dX12_isReadBy_52 rfl (by decide) rfl (by omega) ?_
        have t3 := zx_ga12 hσ store
        refine zr_icmp_eq (pc := 53) hV 80 dX12_isReadBy_53 (by decide) (by omega) (by omega) (fun c4 => ?_) (fun c4 => ?_)
        · show V 80 [some (ZR 0), some (ZI store), some (ZI one), some (ZI other), some (ZI x4_3)] [] 41 σ
          refine zr_iconst (pc := 80) hV 0 dX12_isReadBy_80 rfl ?_
          show V 81 [some (ZR 0), some (ZI store), some (ZI one), some (ZI other), some (ZI x4_3)] [ZI 0] 41 σ
          exact zr_zret (pc := 81) hV dX12_isReadBy_81 rfl rfl (by omega) ⟨rfl, _, rfl, ⟨by decide, by decide⟩, ⟨Or.inl rfl, ⟨fun h => absurd h (by decide), (fun h => by exfalso; rcases h with ⟨y, y0, y8, yx, q⟩ | ⟨q1, q2⟩; exact q (hi3_0 y y0 (by omega) yx); omega)⟩⟩⟩
        · show V 56 [some (ZR 0), some (ZI store), some (ZI one), some (ZI other), some (ZI x4_3)] [] 41 σ
          refine zr_aload_n (pc := 56) hV dX12_isReadBy_56 rfl rfl ?_
          refine zr_getR (pc := 57) hV 19 11 dX12_isReadBy_57 fX12_50 rfl rfl rfl (by decide) (zx_g19 hσ) (by omega) ?_
          refine zr_iload_n (pc := 60) hV dX12_isReadBy_60 rfl rfl ?_
          refine zr_iald (pc := 61) hV dX12_isReadBy_61 rfl (by decide) rfl (by omega) ?_
          have t5 := zx_ga11 hσ store
          refine zr_iload_n (pc := 62) hV dX12_isReadBy_62 rfl rfl ?_
          refine zr_icmp_ne (pc := 63) hV 76 dX12_isReadBy_63 (by decide) (by omega) (by omega) (fun c6 => ?_) (fun c6 => ?_)
          · show V 76 [some (ZR 0), some (ZI store), some (ZI one), some (ZI other), some (ZI x4_3)] [] 41 σ
            refine zr_iconst (pc := 76) hV 1 dX12_isReadBy_76 rfl ?_
            refine zr_goto (pc := 77) hV 81 dX12_isReadBy_77 (by decide) ?_
            show V 81 [some (ZR 0), some (ZI store), some (ZI one), some (ZI other), some (ZI x4_3)] [ZI 1] 41 σ
            exact zr_zret (pc := 81) hV dX12_isReadBy_81 rfl rfl (by omega) ⟨rfl, _, rfl, ⟨by decide, by decide⟩, ⟨Or.inr rfl, ⟨fun _ => Or.inr ⟨by omega, by omega⟩, fun _ => rfl⟩⟩⟩
          · show V 66 [some (ZR 0), some (ZI store), some (ZI one), some (ZI other), some (ZI x4_3)] [] 41 σ
            refine zr_aload_n (pc := 66) hV dX12_isReadBy_66 rfl rfl ?_
            refine zr_getR (pc := 67) hV 20 12 dX12_isReadBy_67 fX12_53 rfl rfl rfl (by decide) (zx_g20 hσ) (by omega) ?_
            refine zr_iload_n (pc := 70) hV dX12_isReadBy_70 rfl rfl ?_
            refine zr_iald (pc := 71) hV dX12_isReadBy_71 rfl (by decide) rfl (by omega) ?_
            have t7 := zx_ga12 hσ store
            refine zr_iload_n (pc := 72) hV dX12_isReadBy_72 rfl rfl ?_
            refine zr_icmp_eq (pc := 73) hV 80 dX12_isReadBy_73 (by decide) (by omega) (by omega) (fun c8 => ?_) (fun c8 => ?_)
            · show V 80 [some (ZR 0), some (ZI store), some (ZI one), some (ZI other), some (ZI x4_3)] [] 41 σ
              refine zr_iconst (pc := 80) hV 0 dX12_isReadBy_80 rfl ?_
              show V 81 [some (ZR 0), some (ZI store), some (ZI one), some (ZI other), some (ZI x4_3)] [ZI 0] 41 σ
              exact zr_zret (pc := 81) hV dX12_isReadBy_81 rfl rfl (by omega) ⟨rfl, _, rfl, ⟨by decide, by decide⟩, ⟨Or.inl rfl, ⟨fun h => absurd h (by decide), (fun h => by exfalso; rcases h with ⟨y, y0, y8, yx, q⟩ | ⟨q1, q2⟩; exact q (hi3_0 y y0 (by omega) yx); omega)⟩⟩⟩
            · show V 76 [some (ZR 0), some (ZI store), some (ZI one), some (ZI other), some (ZI x4_3)] [] 41 σ
              refine zr_iconst (pc := 76) hV 1 dX12_isReadBy_76 rfl ?_
              refine zr_goto (pc := 77) hV 81 dX12_isReadBy_77 (by decide) ?_
              show V 81 [some (ZR 0), some (ZI store), some (ZI one), some (ZI other), some (ZI x4_3)] [ZI 1] 41 σ
              exact zr_zret (pc := 81) hV dX12_isReadBy_81 rfl rfl (by omega) ⟨rfl, _, rfl, ⟨by decide, by decide⟩, ⟨Or.inr rfl, ⟨fun _ => Or.inr ⟨by omega, by omega⟩, fun _ => rfl⟩⟩⟩
      · show V 10 [some (ZR 0), some (ZI store), some (ZI one), some (ZI other), some (ZI x4_3)] [] 41 σ
        refine zr_iload (pc := 10) hV dX12_isReadBy_10 rfl ?_
        refine zr_iload_n (pc := 12) hV dX12_isReadBy_12 rfl rfl ?_
        refine zr_icmp_eq (pc := 13) hV 35 dX12_isReadBy_13 (by decide) (by omega) (by omega) (fun c9 => ?_) (fun c9 => ?_)
        · show V 35 [some (ZR 0), some (ZI store), some (ZI one), some (ZI other), some (ZI x4_3)] [] 41 σ
          refine zr_iinc (pc := 35) hV [some (ZR 0), some (ZI store), some (ZI one), some (ZI other), some (ZI (x4_3 + 1))] (x4_3 + 1) dX12_isReadBy_35 rfl rfl (by decide) rfl rfl ?_
          refine zr_goto (pc := 38) hV 3 dX12_isReadBy_38 (by decide) ?_
          exact ih3 (x4_3 + 1) (by omega) (fun y y0 y1 yx => if hc : y = x4_3 then (by rw [hc]; omega) else hi3_0 y y0 (by omega) yx) (by omega)
        · show V 16 [some (ZR 0), some (ZI store), some (ZI one), some (ZI other), some (ZI x4_3)] [] 41 σ
          refine zr_aload_n (pc := 16) hV dX12_isReadBy_16 rfl rfl ?_
          refine zr_getR (pc := 17) hV 19 11 dX12_isReadBy_17 fX12_50 rfl rfl rfl (by decide) (zx_g19 hσ) (by omega) ?_
          refine zr_iload (pc := 20) hV dX12_isReadBy_20 rfl ?_
          refine zr_iald (pc := 22) hV dX12_isReadBy_22 rfl (by decide) rfl (by omega) ?_
          have t10 := zx_ga11 hσ x4_3
          refine zr_aload_n (pc := 23) hV dX12_isReadBy_23 rfl rfl ?_
          refine zr_getR (pc := 24) hV 20 12 dX12_isReadBy_24 fX12_53 rfl rfl rfl (by decide) (zx_g20 hσ) (by omega) ?_
          refine zr_iload (pc := 27) hV dX12_isReadBy_27 rfl ?_
          refine zr_iald (pc := 29) hV dX12_isReadBy_29 rfl (by decide) rfl (by omega) ?_
          have t11 := zx_ga12 hσ x4_3
          refine zr_icmp_eq (pc := 30) hV 35 dX12_isReadBy_30 (by decide) (by omega) (by omega) (fun c12 => ?_) (fun c12 => ?_)
          · show V 35 [some (ZR 0), some (ZI store), some (ZI one), some (ZI other), some (ZI x4_3)] [] 41 σ
            refine zr_iinc (pc := 35) hV [some (ZR 0), some (ZI store), some (ZI one), some (ZI other), some (ZI (x4_3 + 1))] (x4_3 + 1) dX12_isReadBy_35 rfl rfl (by decide) rfl rfl ?_
            refine zr_goto (pc := 38) hV 3 dX12_isReadBy_38 (by decide) ?_
            exact ih3 (x4_3 + 1) (by omega) (fun y y0 y1 yx => if hc : y = x4_3 then (by rw [hc]; omega) else hi3_0 y y0 (by omega) yx) (by omega)
          · show V 33 [some (ZR 0), some (ZI store), some (ZI one), some (ZI other), some (ZI x4_3)] [] 41 σ
            refine zr_iconst (pc := 33) hV 1 dX12_isReadBy_33 rfl ?_
            exact zr_zret (pc := 34) hV dX12_isReadBy_34 rfl rfl (by omega) ⟨rfl, _, rfl, ⟨by decide, by decide⟩, ⟨Or.inr rfl, ⟨fun _ => Or.inl ⟨x4_3, by omega, by omega, by omega, by omega⟩, fun _ => rfl⟩⟩⟩
  exact L3 (9 - (0 : Int) + 1 : Int).toNat 0 (by omega) (fun y y0 y1 _ => absurd y1 (by omega)) (by omega)
set_option maxHeartbeats 800000 in
theorem c_X12_nameBit3 {σ : zq_S} (what : Int) (q0 : 0 ≤ what ∧ what ≤ 10) : zq_C zx_w yX12_nameBit cX12_nameBit 1 (some .int) 0 0 41 41 [ZI what] σ (zq_pp σ (fun r => 0 ≤ r ∧ r ≤ 127 ∧ r = zr_nb what)) := by
  refine zq_C_of (by decide) (Nat.le_refl _) (Nat.le_of_ble_eq_true rfl) [some (ZI what)] rfl (fun V hV => ?_)
  show V 0 [some (ZI what)] [] 41 σ
  refine zr_iload_n (pc := 0) hV dX12_nameBit_0 rfl rfl ?_
  refine zr_iconst (pc := 1) hV 3 dX12_nameBit_1 rfl ?_
  refine zr_icmp_ge (pc := 2) hV 9 dX12_nameBit_2 (by decide) (by omega) ⟨by decide, by decide⟩ (fun c1 => ?_) (fun c1 => ?_)
  · show V 9 [some (ZI what)] [] 41 σ
    refine zr_iload_n (pc := 9) hV dX12_nameBit_9 rfl rfl ?_
    refine zr_iconst (pc := 10) hV 3 dX12_nameBit_10 rfl ?_
    refine zr_icmp_ne (pc := 11) hV 17 dX12_nameBit_11 (by decide) (by omega) ⟨by decide, by decide⟩ (fun c2 => ?_) (fun c2 => ?_)
    · show V 17 [some (ZI what)] [] 41 σ
      refine zr_iload_n (pc := 17) hV dX12_nameBit_17 rfl rfl ?_
      refine zr_iconst (pc := 18) hV 4 dX12_nameBit_18 rfl ?_
      refine zr_icmp_eq (pc := 19) hV 27 dX12_nameBit_19 (by decide) (by omega) ⟨by decide, by decide⟩ (fun c3 => ?_) (fun c3 => ?_)
      · show V 27 [some (ZI what)] [] 41 σ
        refine zr_iload_n (pc := 27) hV dX12_nameBit_27 rfl rfl ?_
        refine zr_iconst (pc := 28) hV 4 dX12_nameBit_28 rfl ?_
        refine zr_icmp_ne (pc := 29) hV 37 dX12_nameBit_29 (by decide) (by omega) ⟨by decide, by decide⟩ (fun c4 => ?_) (fun c4 => ?_)
        · exfalso; omega
        · show V 32 [some (ZI what)] [] 41 σ
          refine zr_bipush (pc := 32) hV 8 dX12_nameBit_32 (by decide) ?_
          refine zr_goto (pc := 34) hV 39 dX12_nameBit_34 (by decide) ?_
          show V 39 [some (ZI what)] [ZI 8] 41 σ
          exact zr_iret (pc := 39) hV dX12_nameBit_39 rfl rfl ⟨rfl, _, rfl, ⟨by decide, by decide⟩, (by have e : 8 = zr_nb what := (by unfold zr_nb; repeat (first | rw [if_pos (by omega)] | rw [if_neg (by omega)])); have b := (zr_nb_t (w := what) (by omega)).1; exact ⟨by omega, by omega, e⟩)⟩
      · show V 22 [some (ZI what)] [] 41 σ
        refine zr_iload_n (pc := 22) hV dX12_nameBit_22 rfl rfl ?_
        refine zr_iconst (pc := 23) hV 5 dX12_nameBit_23 rfl ?_
        refine zr_icmp_ne (pc := 24) hV 40 dX12_nameBit_24 (by decide) (by omega) ⟨by decide, by decide⟩ (fun c5 => ?_) (fun c5 => ?_)
        · show V 40 [some (ZI what)] [] 41 σ
          refine zr_iload_n (pc := 40) hV dX12_nameBit_40 rfl rfl ?_
          refine zr_bipush (pc := 41) hV 10 dX12_nameBit_41 (by decide) ?_
          refine zr_icmp_ne (pc := 43) hV 50 dX12_nameBit_43 (by decide) (by omega) ⟨by decide, by decide⟩ (fun c6 => ?_) (fun c6 => ?_)
          · show V 50 [some (ZI what)] [] 41 σ
            refine zr_bipush (pc := 50) hV 32 dX12_nameBit_50 (by decide) ?_
            refine zr_iload_n (pc := 52) hV dX12_nameBit_52 rfl rfl ?_
            refine zr_bipush (pc := 53) hV 9 dX12_nameBit_53 (by decide) ?_
            refine zr_icmp_ne (pc := 55) hV 63 dX12_nameBit_55 (by decide) (by omega) ⟨by decide, by decide⟩ (fun c7 => ?_) (fun c7 => ?_)
            · show V 63 [some (ZI what)] [ZI 32] 41 σ
              refine zr_iconst (pc := 63) hV 1 dX12_nameBit_63 rfl ?_
              refine zr_iload_n (pc := 64) hV dX12_nameBit_64 rfl rfl ?_
              refine zr_bipush (pc := 65) hV 6 dX12_nameBit_65 (by decide) ?_
              refine zr_isub (pc := 67) hV dX12_nameBit_67 ?_
              refine zr_ishl (pc := 68) hV dX12_nameBit_68 ?_
              have t8 := zx_shl_one (y := what - 6) 2 4 (by decide) (by decide) (by omega)
              show V 69 [some (ZI what)] [ZI (zq_shl 1 (what - 6)), ZI 32] 41 σ
              refine zr_ior (pc := 69) hV dX12_nameBit_69 ?_
              have t9 := zq_or_b (x := 32) (y := zq_shl 1 (what - 6)) 6 64 (by decide) (by decide) (by omega) (by omega)
              show V 70 [some (ZI what)] [ZI (zq_or 32 (zq_shl 1 (what - 6)))] 41 σ
              exact zr_iret (pc := 70) hV dX12_nameBit_70 rfl rfl ⟨rfl, _, rfl, (by omega), (by have e : zq_or 32 (zq_shl 1 (what - 6)) = zr_nb what := (by unfold zr_nb; repeat (first | rw [if_pos (by omega)] | rw [if_neg (by omega)])); have b := (zr_nb_t (w := what) (by omega)).1; exact ⟨by omega, by omega, e⟩)⟩
            · show V 58 [some (ZI what)] [ZI 32] 41 σ
              refine zr_bipush (pc := 58) hV 64 dX12_nameBit_58 (by decide) ?_
              refine zr_goto (pc := 60) hV 69 dX12_nameBit_60 (by decide) ?_
              show V 69 [some (ZI what)] [ZI 64, ZI 32] 41 σ
              refine zr_ior (pc := 69) hV dX12_nameBit_69 ?_
              have t10 := zq_or_b (x := 32) (y := 64) 7 128 (by decide) (by decide) (by omega) (by omega)
              show V 70 [some (ZI what)] [ZI (zq_or 32 64)] 41 σ
              exact zr_iret (pc := 70) hV dX12_nameBit_70 rfl rfl ⟨rfl, _, rfl, (by omega), (by have e : zq_or 32 64 = zr_nb what := (by unfold zr_nb; repeat (first | rw [if_pos (by omega)] | rw [if_neg (by omega)])); have b := (zr_nb_t (w := what) (by omega)).1; exact ⟨by omega, by omega, e⟩)⟩
          · show V 46 [some (ZI what)] [] 41 σ
            refine zr_iconst (pc := 46) hV 0 dX12_nameBit_46 rfl ?_
            refine zr_goto (pc := 47) hV 70 dX12_nameBit_47 (by decide) ?_
            show V 70 [some (ZI what)] [ZI 0] 41 σ
            exact zr_iret (pc := 70) hV dX12_nameBit_70 rfl rfl ⟨rfl, _, rfl, ⟨by decide, by decide⟩, (by have e : 0 = zr_nb what := (by unfold zr_nb; repeat (first | rw [if_pos (by omega)] | rw [if_neg (by omega)])); have b := (zr_nb_t (w := what) (by omega)).1; exact ⟨by omega, by omega, e⟩)⟩
        · show V 27 [some (ZI what)] [] 41 σ
          refine zr_iload_n (pc := 27) hV dX12_nameBit_27 rfl rfl ?_
          refine zr_iconst (pc := 28) hV 4 dX12_nameBit_28 rfl ?_
          refine zr_icmp_ne (pc := 29) hV 37 dX12_nameBit_29 (by decide) (by omega) ⟨by decide, by decide⟩ (fun c11 => ?_) (fun c11 => ?_)
          · show V 37 [some (ZI what)] [] 41 σ
            refine zr_bipush (pc := 37) hV 16 dX12_nameBit_37 (by decide) ?_
            show V 39 [some (ZI what)] [ZI 16] 41 σ
            exact zr_iret (pc := 39) hV dX12_nameBit_39 rfl rfl ⟨rfl, _, rfl, ⟨by decide, by decide⟩, (by have e : 16 = zr_nb what := (by unfold zr_nb; repeat (first | rw [if_pos (by omega)] | rw [if_neg (by omega)])); have b := (zr_nb_t (w := what) (by omega)).1; exact ⟨by omega, by omega, e⟩)⟩
          · exfalso; omega
    · show V 14 [some (ZI what)] [] 41 σ
      refine zr_bipush (pc := 14) hV 64 dX12_nameBit_14 (by decide) ?_
      exact zr_iret (pc := 16) hV dX12_nameBit_16 rfl rfl ⟨rfl, _, rfl, ⟨by decide, by decide⟩, (by have e : 64 = zr_nb what := (by unfold zr_nb; repeat (first | rw [if_pos (by omega)] | rw [if_neg (by omega)])); have b := (zr_nb_t (w := what) (by omega)).1; exact ⟨by omega, by omega, e⟩)⟩
  · show V 5 [some (ZI what)] [] 41 σ
    refine zr_iconst (pc := 5) hV 1 dX12_nameBit_5 rfl ?_
    refine zr_iload_n (pc := 6) hV dX12_nameBit_6 rfl rfl ?_
    refine zr_ishl (pc := 7) hV dX12_nameBit_7 ?_
    have t12 := zx_shl_one (y := what) 2 4 (by decide) (by decide) (by omega)
    exact zr_iret (pc := 8) hV dX12_nameBit_8 rfl rfl ⟨rfl, _, rfl, (by omega), (by have e : zq_shl 1 what = zr_nb what := (by unfold zr_nb; repeat (first | rw [if_pos (by omega)] | rw [if_neg (by omega)])); have b := (zr_nb_t (w := what) (by omega)).1; exact ⟨by omega, by omega, e⟩)⟩
set_option maxHeartbeats 800000 in
theorem c_X12_namesOf3 {σ : zq_S} (hσ : zx_T σ) (o : Int) (q0 : 0 ≤ o ∧ o ≤ 20) (q1 : zx_A σ o) : zq_C zx_w yX12_namesOf cX12_namesOf 5 (some .int) 1 20 41 41 [ZR 0, ZI o] σ (zq_pp σ (fun r => (0 ≤ r ∧ r ≤ 127) ∧ zq_hid (zr_nI (σ 6) o (σ 3 o) (σ 4 o) (σ 5 o) r))) := by
  refine zq_C_of (by decide) (Nat.le_refl _) (Nat.le_of_ble_eq_true rfl) [some (ZR 0), some (ZI o), none, none, none] rfl (fun V hV => ?_)
  have z4o := zx_ga4 hσ o
  have z5o := zx_ga5 hσ o
  show V 0 [some (ZR 0), some (ZI o), none, none, none] [] 41 σ
  refine zr_aload_n (pc := 0) hV dX12_namesOf_0 rfl rfl ?_
  refine zr_getR (pc := 1) hV 6 3 dX12_namesOf_1 fX12_26 rfl rfl rfl (by decide) (zx_g6 hσ) (by omega) ?_
  refine zr_iload_n (pc := 4) hV dX12_namesOf_4 rfl rfl ?_
  refine zr_iald (pc := 5) hV dX12_namesOf_5 rfl (by decide) rfl (by omega) ?_
  have t1 := zx_ga3 hσ o
  refine zr_if_le (pc := 6) hV 35 dX12_namesOf_6 (by decide) (by omega) (fun c2 => ?_) (fun c2 => ?_)
  · show V 35 [some (ZR 0), some (ZI o), none, none, none] [] 41 σ
    refine zr_iconst (pc := 35) hV 0 dX12_namesOf_35 rfl ?_
    show V 36 [some (ZR 0), some (ZI o), none, none, none] [ZI 0] 41 σ
    refine zr_istore_n (pc := 36) hV [some (ZR 0), some (ZI o), some (ZI 0), none, none] dX12_namesOf_36 rfl (by decide) rfl rfl ?_
    refine zr_iconst (pc := 37) hV 0 dX12_namesOf_37 rfl ?_
    refine zr_istore_n (pc := 38) hV [some (ZR 0), some (ZI o), some (ZI 0), some (ZI 0), none] dX12_namesOf_38 rfl (by decide) rfl rfl ?_
    have L39 : ∀ (fuel : Nat) (x2_39 : Int) (x3_39 : Int), (0 ≤ x2_39 ∧ x2_39 ≤ 127) → (0 ≤ x3_39 ∧ x3_39 ≤ 3) → (zq_hid (zr_nI (σ 6) o (σ 3 o) (σ 4 o) x3_39 x2_39)) → (x3_39 ≤ σ 5 o) → 3 - x3_39 < (fuel : Int) → V 39 [some (ZR 0), some (ZI o), some (ZI x2_39), some (ZI x3_39), none] [] 41 σ := by
      intro fuel
      induction fuel with
      | zero =>
        intro x2_39 x3_39 hx2_39 hx3_39 hi39_0 hi39_1 hm39
        exfalso; omega
      | succ fuel ih =>
        intro x2_39 x3_39 hx2_39 hx3_39 hi39_0 hi39_1 hm39
        have ih39 := ih
        show V 39 [some (ZR 0), some (ZI o), some (ZI x2_39), some (ZI x3_39), none] [] 41 σ
        refine zr_iload_n (pc := 39) hV dX12_namesOf_39 rfl rfl ?_
        refine zr_aload_n (pc := 40) hV dX12_namesOf_40 rfl rfl ?_
        refine zr_getR (pc := 41) hV 8 5 dX12_namesOf_41 fX12_32 rfl rfl rfl (by decide) (zx_g8 hσ) (by omega) ?_
        refine zr_iload_n (pc := 44) hV dX12_namesOf_44 rfl rfl ?_
        refine zr_iald (pc := 45) hV dX12_namesOf_45 rfl (by decide) rfl (by omega) ?_
        have t3 := zx_ga5 hσ o
        refine zr_icmp_ge (pc := 46) hV 121 dX12_namesOf_46 (by decide) (by omega) (by omega) (fun c4 => ?_) (fun c4 => ?_)
        · show V 121 [some (ZR 0), some (ZI o), some (ZI x2_39), some (ZI x3_39), none] [] 41 σ
          refine zr_iload_n (pc := 121) hV dX12_namesOf_121 rfl rfl ?_
          exact zr_iret (pc := 122) hV dX12_namesOf_122 rfl rfl ⟨rfl, _, rfl, (by omega), ⟨⟨by omega, by omega⟩, by have h := hi39_0; unfold zq_hid at h; rw [show σ 5 o = x3_39 by omega]; exact h⟩⟩
        · show V 49 [some (ZR 0), some (ZI o), some (ZI x2_39), some (ZI x3_39), none] [] 41 σ
          have zb0 := zx_ac0 hσ (18 * o + 6 * x3_39) (by omega)
          have zb1 := zx_ac1 hσ ((18 * o + 6 * x3_39) + 1) (by omega)
          have zb4 := zx_ac4 hσ ((18 * o + 6 * x3_39) + 4) (by omega)
          have zb5 : 0 ≤ σ 6 ((18 * o + 6 * x3_39) + 4) := q1 x3_39 (by omega) (by omega)
          refine zr_bipush (pc := 49) hV 18 dX12_namesOf_49 (by decide) ?_
          refine zr_iload_n (pc := 51) hV dX12_namesOf_51 rfl rfl ?_
          refine zr_imul (pc := 52) hV dX12_namesOf_52 ?_
          refine zr_bipush (pc := 53) hV 6 dX12_namesOf_53 (by decide) ?_
          refine zr_iload_n (pc := 55) hV dX12_namesOf_55 rfl rfl ?_
          refine zr_imul (pc := 56) hV dX12_namesOf_56 ?_
          refine zr_iadd (pc := 57) hV dX12_namesOf_57 ?_
          refine zr_istore (pc := 58) hV [some (ZR 0), some (ZI o), some (ZI x2_39), some (ZI x3_39), some (ZI ((18 * o) + (6 * x3_39)))] dX12_namesOf_58 (by decide) rfl rfl ?_
          refine zr_iload_n (pc := 60) hV dX12_namesOf_60 rfl rfl ?_
          refine zr_aload_n (pc := 61) hV dX12_namesOf_61 rfl rfl ?_
          refine zr_getR (pc := 62) hV 9 6 dX12_namesOf_62 fX12_35 rfl rfl rfl (by decide) (zx_g9 hσ) (by omega) ?_
          refine zr_iload (pc := 65) hV dX12_namesOf_65 rfl ?_
          refine zr_iald (pc := 67) hV dX12_namesOf_67 rfl (by decide) rfl (by omega) ?_
          have t5 := zx_ac0 hσ ((18 * o) + (6 * x3_39)) (by omega)
          refine zr_callSp (pc := 68) hV [ZI (σ 6 ((18 * o) + (6 * x3_39)))] (st := [ZI x2_39]) (c_X12_nameBit3 (σ := σ) (σ 6 ((18 * o) + (6 * x3_39))) (by omega)) dX12_namesOf_68 mX12_307 (by decide) (Nat.le_of_ble_eq_true rfl) (Nat.le_refl _) (fun r68 hr68 pr68 => ?_)
          refine zr_aload_n (pc := 71) hV dX12_namesOf_71 rfl rfl ?_
          refine zr_getR (pc := 72) hV 9 6 dX12_namesOf_72 fX12_35 rfl rfl rfl (by decide) (zx_g9 hσ) (by omega) ?_
          refine zr_iload (pc := 75) hV dX12_namesOf_75 rfl ?_
          refine zr_iconst (pc := 77) hV 1 dX12_namesOf_77 rfl ?_
          refine zr_iadd (pc := 78) hV dX12_namesOf_78 ?_
          refine zr_iald (pc := 79) hV dX12_namesOf_79 rfl (by decide) rfl (by omega) ?_
          have t6 := zx_ac1 hσ (((18 * o) + (6 * x3_39)) + 1) (by omega)
          refine zr_callSp (pc := 80) hV [ZI (σ 6 (((18 * o) + (6 * x3_39)) + 1))] (st := [ZI r68, ZI x2_39]) (c_X12_nameBit3 (σ := σ) (σ 6 (((18 * o) + (6 * x3_39)) + 1)) (by omega)) dX12_namesOf_80 mX12_307 (by decide) (Nat.le_of_ble_eq_true rfl) (Nat.le_refl _) (fun r80 hr80 pr80 => ?_)
          refine zr_ior (pc := 83) hV dX12_namesOf_83 ?_
          have t7 := zq_or_b (x := r68) (y := r80) 7 128 (by decide) (by decide) (by omega) (by omega)
          refine zr_aload_n (pc := 84) hV dX12_namesOf_84 rfl rfl ?_
          refine zr_getR (pc := 85) hV 9 6 dX12_namesOf_85 fX12_35 rfl rfl rfl (by decide) (zx_g9 hσ) (by omega) ?_
          refine zr_iload (pc := 88) hV dX12_namesOf_88 rfl ?_
          refine zr_iconst (pc := 90) hV 3 dX12_namesOf_90 rfl ?_
          refine zr_iadd (pc := 91) hV dX12_namesOf_91 ?_
          refine zr_iald (pc := 92) hV dX12_namesOf_92 rfl (by decide) rfl (by omega) ?_
          have t8 := zx_ac3 hσ (((18 * o) + (6 * x3_39)) + 3) (by omega)
          refine zr_if_le (pc := 93) hV 111 dX12_namesOf_93 (by decide) (by omega) (fun c9 => ?_) (fun c9 => ?_)
          · show V 111 [some (ZR 0), some (ZI o), some (ZI x2_39), some (ZI x3_39), some (ZI ((18 * o) + (6 * x3_39)))] [ZI (zq_or r68 r80), ZI x2_39] 41 σ
            refine zr_iconst (pc := 111) hV 0 dX12_namesOf_111 rfl ?_
            show V 112 [some (ZR 0), some (ZI o), some (ZI x2_39), some (ZI x3_39), some (ZI ((18 * o) + (6 * x3_39)))] [ZI 0, ZI (zq_or r68 r80), ZI x2_39] 41 σ
            refine zr_ior (pc := 112) hV dX12_namesOf_112 ?_
            have t10 := zq_or_b (x := zq_or r68 r80) (y := 0) 7 128 (by decide) (by decide) (by omega) (by omega)
            refine zr_ior (pc := 113) hV dX12_namesOf_113 ?_
            have t11 := zq_or_b (x := x2_39) (y := zq_or (zq_or r68 r80) 0) 7 128 (by decide) (by decide) (by omega) (by omega)
            refine zr_istore_n (pc := 114) hV [some (ZR 0), some (ZI o), some (ZI (zq_or x2_39 (zq_or (zq_or r68 r80) 0))), some (ZI x3_39), some (ZI ((18 * o) + (6 * x3_39)))] dX12_namesOf_114 rfl (by decide) rfl rfl ?_
            refine zr_iinc (pc := 115) hV [some (ZR 0), some (ZI o), some (ZI (zq_or x2_39 (zq_or (zq_or r68 r80) 0))), some (ZI (x3_39 + 1)), some (ZI ((18 * o) + (6 * x3_39)))] (x3_39 + 1) dX12_namesOf_115 rfl rfl (by decide) rfl rfl ?_
            refine zr_goto (pc := 118) hV 39 dX12_namesOf_118 (by decide) ?_
            refine zr_sub (pc := 39) hV [some (ZR 0), some (ZI o), some (ZI (zq_or x2_39 (zq_or (zq_or r68 r80) 0))), some (ZI (x3_39 + 1)), none] (⟨rfl, rfl, rfl, rfl, trivial⟩) ?_
            exact ih39 (zq_or x2_39 (zq_or (zq_or r68 r80) 0)) (x3_39 + 1) (by omega) (by omega) (zr_nI_s (by omega) hi39_0 (by omega) (by omega) (by omega) pr68.2.2 pr80.2.2 (by rw [if_neg (by omega)])) (by omega) (by omega)
          · show V 96 [some (ZR 0), some (ZI o), some (ZI x2_39), some (ZI x3_39), some (ZI ((18 * o) + (6 * x3_39)))] [ZI (zq_or r68 r80), ZI x2_39] 41 σ
            refine zr_aload_n (pc := 96) hV dX12_namesOf_96 rfl rfl ?_
            refine zr_getR (pc := 97) hV 9 6 dX12_namesOf_97 fX12_35 rfl rfl rfl (by decide) (zx_g9 hσ) (by omega) ?_
            refine zr_iload (pc := 100) hV dX12_namesOf_100 rfl ?_
            refine zr_iconst (pc := 102) hV 4 dX12_namesOf_102 rfl ?_
            refine zr_iadd (pc := 103) hV dX12_namesOf_103 ?_
            refine zr_iald (pc := 104) hV dX12_namesOf_104 rfl (by decide) rfl (by omega) ?_
            have t12 := zx_ac4 hσ (((18 * o) + (6 * x3_39)) + 4) (by omega)
            refine zr_callSp (pc := 105) hV [ZI (σ 6 (((18 * o) + (6 * x3_39)) + 4))] (st := [ZI (zq_or r68 r80), ZI x2_39]) (c_X12_nameBit3 (σ := σ) (σ 6 (((18 * o) + (6 * x3_39)) + 4)) (by omega)) dX12_namesOf_105 mX12_307 (by decide) (Nat.le_of_ble_eq_true rfl) (Nat.le_refl _) (fun r105 hr105 pr105 => ?_)
            refine zr_goto (pc := 108) hV 112 dX12_namesOf_108 (by decide) ?_
            show V 112 [some (ZR 0), some (ZI o), some (ZI x2_39), some (ZI x3_39), some (ZI ((18 * o) + (6 * x3_39)))] [ZI r105, ZI (zq_or r68 r80), ZI x2_39] 41 σ
            refine zr_ior (pc := 112) hV dX12_namesOf_112 ?_
            have t13 := zq_or_b (x := zq_or r68 r80) (y := r105) 7 128 (by decide) (by decide) (by omega) (by omega)
            refine zr_ior (pc := 113) hV dX12_namesOf_113 ?_
            have t14 := zq_or_b (x := x2_39) (y := zq_or (zq_or r68 r80) r105) 7 128 (by decide) (by decide) (by omega) (by omega)
            refine zr_istore_n (pc := 114) hV [some (ZR 0), some (ZI o), some (ZI (zq_or x2_39 (zq_or (zq_or r68 r80) r105))), some (ZI x3_39), some (ZI ((18 * o) + (6 * x3_39)))] dX12_namesOf_114 rfl (by decide) rfl rfl ?_
            refine zr_iinc (pc := 115) hV [some (ZR 0), some (ZI o), some (ZI (zq_or x2_39 (zq_or (zq_or r68 r80) r105))), some (ZI (x3_39 + 1)), some (ZI ((18 * o) + (6 * x3_39)))] (x3_39 + 1) dX12_namesOf_115 rfl rfl (by decide) rfl rfl ?_
            refine zr_goto (pc := 118) hV 39 dX12_namesOf_118 (by decide) ?_
            refine zr_sub (pc := 39) hV [some (ZR 0), some (ZI o), some (ZI (zq_or x2_39 (zq_or (zq_or r68 r80) r105))), some (ZI (x3_39 + 1)), none] (⟨rfl, rfl, rfl, rfl, trivial⟩) ?_
            exact ih39 (zq_or x2_39 (zq_or (zq_or r68 r80) r105)) (x3_39 + 1) (by omega) (by omega) (zr_nI_s (by omega) hi39_0 (by omega) (by omega) (by omega) pr68.2.2 pr80.2.2 (by rw [if_pos (by omega)]; exact pr105.2.2)) (by omega) (by omega)
    exact L39 (3 - (0 : Int) + 1 : Int).toNat 0 0 (by omega) (by omega) (zr_nI_0 (by omega) (by first | rw [if_pos (by omega), if_pos (by omega)] | rw [if_pos (by omega), if_neg (by omega)] | rw [if_neg (by omega)])) (by omega) (by omega)
  · show V 9 [some (ZR 0), some (ZI o), none, none, none] [] 41 σ
    refine zr_aload_n (pc := 9) hV dX12_namesOf_9 rfl rfl ?_
    refine zr_getR (pc := 10) hV 7 4 dX12_namesOf_10 fX12_29 rfl rfl rfl (by decide) (zx_g7 hσ) (by omega) ?_
    refine zr_iload_n (pc := 13) hV dX12_namesOf_13 rfl rfl ?_
    refine zr_iald (pc := 14) hV dX12_namesOf_14 rfl (by decide) rfl (by omega) ?_
    have t15 := zx_ga4 hσ o
    refine zr_iconst (pc := 15) hV 4 dX12_namesOf_15 rfl ?_
    refine zr_icmp_ne (pc := 16) hV 24 dX12_namesOf_16 (by decide) (by omega) ⟨by decide, by decide⟩ (fun c16 => ?_) (fun c16 => ?_)
    · show V 24 [some (ZR 0), some (ZI o), none, none, none] [] 41 σ
      refine zr_iconst (pc := 24) hV 1 dX12_namesOf_24 rfl ?_
      refine zr_aload_n (pc := 25) hV dX12_namesOf_25 rfl rfl ?_
      refine zr_getR (pc := 26) hV 7 4 dX12_namesOf_26 fX12_29 rfl rfl rfl (by decide) (zx_g7 hσ) (by omega) ?_
      refine zr_iload_n (pc := 29) hV dX12_namesOf_29 rfl rfl ?_
      refine zr_iald (pc := 30) hV dX12_namesOf_30 rfl (by decide) rfl (by omega) ?_
      have t17 := zx_ga4 hσ o
      refine zr_ishl (pc := 31) hV dX12_namesOf_31 ?_
      have t18 := zx_shl_one (y := σ 4 o) 3 8 (by decide) (by decide) (by omega)
      refine zr_goto (pc := 32) hV 36 dX12_namesOf_32 (by decide) ?_
      show V 36 [some (ZR 0), some (ZI o), none, none, none] [ZI (zq_shl 1 (σ 4 o))] 41 σ
      refine zr_istore_n (pc := 36) hV [some (ZR 0), some (ZI o), some (ZI (zq_shl 1 (σ 4 o))), none, none] dX12_namesOf_36 rfl (by decide) rfl rfl ?_
      refine zr_iconst (pc := 37) hV 0 dX12_namesOf_37 rfl ?_
      refine zr_istore_n (pc := 38) hV [some (ZR 0), some (ZI o), some (ZI (zq_shl 1 (σ 4 o))), some (ZI 0), none] dX12_namesOf_38 rfl (by decide) rfl rfl ?_
      have L39 : ∀ (fuel : Nat) (x2_39 : Int) (x3_39 : Int), (0 ≤ x2_39 ∧ x2_39 ≤ 127) → (0 ≤ x3_39 ∧ x3_39 ≤ 3) → (zq_hid (zr_nI (σ 6) o (σ 3 o) (σ 4 o) x3_39 x2_39)) → (x3_39 ≤ σ 5 o) → 3 - x3_39 < (fuel : Int) → V 39 [some (ZR 0), some (ZI o), some (ZI x2_39), some (ZI x3_39), none] [] 41 σ := by
        intro fuel
        induction fuel with
        | zero =>
          intro x2_39 x3_39 hx2_39 hx3_39 hi39_0 hi39_1 hm39
          exfalso; omega
        | succ fuel ih =>
          intro x2_39 x3_39 hx2_39 hx3_39 hi39_0 hi39_1 hm39
          have ih39 := ih
          show V 39 [some (ZR 0), some (ZI o), some (ZI x2_39), some (ZI x3_39), none] [] 41 σ
          refine zr_iload_n (pc := 39) hV dX12_namesOf_39 rfl rfl ?_
          refine zr_aload_n (pc := 40) hV dX12_namesOf_40 rfl rfl ?_
          refine zr_getR (pc := 41) hV 8 5 dX12_namesOf_41 fX12_32 rfl rfl rfl (by decide) (zx_g8 hσ) (by omega) ?_
          refine zr_iload_n (pc := 44) hV dX12_namesOf_44 rfl rfl ?_
          refine zr_iald (pc := 45) hV dX12_namesOf_45 rfl (by decide) rfl (by omega) ?_
          have t19 := zx_ga5 hσ o
          refine zr_icmp_ge (pc := 46) hV 121 dX12_namesOf_46 (by decide) (by omega) (by omega) (fun c20 => ?_) (fun c20 => ?_)
          · show V 121 [some (ZR 0), some (ZI o), some (ZI x2_39), some (ZI x3_39), none] [] 41 σ
            refine zr_iload_n (pc := 121) hV dX12_namesOf_121 rfl rfl ?_
            exact zr_iret (pc := 122) hV dX12_namesOf_122 rfl rfl ⟨rfl, _, rfl, (by omega), ⟨⟨by omega, by omega⟩, by have h := hi39_0; unfold zq_hid at h; rw [show σ 5 o = x3_39 by omega]; exact h⟩⟩
          · show V 49 [some (ZR 0), some (ZI o), some (ZI x2_39), some (ZI x3_39), none] [] 41 σ
            have zb0 := zx_ac0 hσ (18 * o + 6 * x3_39) (by omega)
            have zb1 := zx_ac1 hσ ((18 * o + 6 * x3_39) + 1) (by omega)
            have zb4 := zx_ac4 hσ ((18 * o + 6 * x3_39) + 4) (by omega)
            have zb5 : 0 ≤ σ 6 ((18 * o + 6 * x3_39) + 4) := q1 x3_39 (by omega) (by omega)
            refine zr_bipush (pc := 49) hV 18 dX12_namesOf_49 (by decide) ?_
            refine zr_iload_n (pc := 51) hV dX12_namesOf_51 rfl rfl ?_
            refine zr_imul (pc := 52) hV dX12_namesOf_52 ?_
            refine zr_bipush (pc := 53) hV 6 dX12_namesOf_53 (by decide) ?_
            refine zr_iload_n (pc := 55) hV dX12_namesOf_55 rfl rfl ?_
            refine zr_imul (pc := 56) hV dX12_namesOf_56 ?_
            refine zr_iadd (pc := 57) hV dX12_namesOf_57 ?_
            refine zr_istore (pc := 58) hV [some (ZR 0), some (ZI o), some (ZI x2_39), some (ZI x3_39), some (ZI ((18 * o) + (6 * x3_39)))] dX12_namesOf_58 (by decide) rfl rfl ?_
            refine zr_iload_n (pc := 60) hV dX12_namesOf_60 rfl rfl ?_
            refine zr_aload_n (pc := 61) hV dX12_namesOf_61 rfl rfl ?_
            refine zr_getR (pc := 62) hV 9 6 dX12_namesOf_62 fX12_35 rfl rfl rfl (by decide) (zx_g9 hσ) (by omega) ?_
            refine zr_iload (pc := 65) hV dX12_namesOf_65 rfl ?_
            refine zr_iald (pc := 67) hV dX12_namesOf_67 rfl (by decide) rfl (by omega) ?_
            have t21 := zx_ac0 hσ ((18 * o) + (6 * x3_39)) (by omega)
            refine zr_callSp (pc := 68) hV [ZI (σ 6 ((18 * o) + (6 * x3_39)))] (st := [ZI x2_39]) (c_X12_nameBit3 (σ := σ) (σ 6 ((18 * o) + (6 * x3_39))) (by omega)) dX12_namesOf_68 mX12_307 (by decide) (Nat.le_of_ble_eq_true rfl) (Nat.le_refl _) (fun r68 hr68 pr68 => ?_)
            refine zr_aload_n (pc := 71) hV dX12_namesOf_71 rfl rfl ?_
            refine zr_getR (pc := 72) hV 9 6 dX12_namesOf_72 fX12_35 rfl rfl rfl (by decide) (zx_g9 hσ) (by omega) ?_
            refine zr_iload (pc := 75) hV dX12_namesOf_75 rfl ?_
            refine zr_iconst (pc := 77) hV 1 dX12_namesOf_77 rfl ?_
            refine zr_iadd (pc := 78) hV dX12_namesOf_78 ?_
            refine zr_iald (pc := 79) hV dX12_namesOf_79 rfl (by decide) rfl (by omega) ?_
            have t22 := zx_ac1 hσ (((18 * o) + (6 * x3_39)) + 1) (by omega)
            refine zr_callSp (pc := 80) hV [ZI (σ 6 (((18 * o) + (6 * x3_39)) + 1))] (st := [ZI r68, ZI x2_39]) (c_X12_nameBit3 (σ := σ) (σ 6 (((18 * o) + (6 * x3_39)) + 1)) (by omega)) dX12_namesOf_80 mX12_307 (by decide) (Nat.le_of_ble_eq_true rfl) (Nat.le_refl _) (fun r80 hr80 pr80 => ?_)
            refine zr_ior (pc := 83) hV dX12_namesOf_83 ?_
            have t23 := zq_or_b (x := r68) (y := r80) 7 128 (by decide) (by decide) (by omega) (by omega)
            refine zr_aload_n (pc := 84) hV dX12_namesOf_84 rfl rfl ?_
            refine zr_getR (pc := 85) hV 9 6 dX12_namesOf_85 fX12_35 rfl rfl rfl (by decide) (zx_g9 hσ) (by omega) ?_
            refine zr_iload (pc := 88) hV dX12_namesOf_88 rfl ?_
            refine zr_iconst (pc := 90) hV 3 dX12_namesOf_90 rfl ?_
            refine zr_iadd (pc := 91) hV dX12_namesOf_91 ?_
            refine zr_iald (pc := 92) hV dX12_namesOf_92 rfl (by decide) rfl (by omega) ?_
            have t24 := zx_ac3 hσ (((18 * o) + (6 * x3_39)) + 3) (by omega)
            refine zr_if_le (pc := 93) hV 111 dX12_namesOf_93 (by decide) (by omega) (fun c25 => ?_) (fun c25 => ?_)
            · show V 111 [some (ZR 0), some (ZI o), some (ZI x2_39), some (ZI x3_39), some (ZI ((18 * o) + (6 * x3_39)))] [ZI (zq_or r68 r80), ZI x2_39] 41 σ
              refine zr_iconst (pc := 111) hV 0 dX12_namesOf_111 rfl ?_
              show V 112 [some (ZR 0), some (ZI o), some (ZI x2_39), some (ZI x3_39), some (ZI ((18 * o) + (6 * x3_39)))] [ZI 0, ZI (zq_or r68 r80), ZI x2_39] 41 σ
              refine zr_ior (pc := 112) hV dX12_namesOf_112 ?_
              have t26 := zq_or_b (x := zq_or r68 r80) (y := 0) 7 128 (by decide) (by decide) (by omega) (by omega)
              refine zr_ior (pc := 113) hV dX12_namesOf_113 ?_
              have t27 := zq_or_b (x := x2_39) (y := zq_or (zq_or r68 r80) 0) 7 128 (by decide) (by decide) (by omega) (by omega)
              refine zr_istore_n (pc := 114) hV [some (ZR 0), some (ZI o), some (ZI (zq_or x2_39 (zq_or (zq_or r68 r80) 0))), some (ZI x3_39), some (ZI ((18 * o) + (6 * x3_39)))] dX12_namesOf_114 rfl (by decide) rfl rfl ?_
              refine zr_iinc (pc := 115) hV [some (ZR 0), some (ZI o), some (ZI (zq_or x2_39 (zq_or (zq_or r68 r80) 0))), some (ZI (x3_39 + 1)), some (ZI ((18 * o) + (6 * x3_39)))] (x3_39 + 1) dX12_namesOf_115 rfl rfl (by decide) rfl rfl ?_
              refine zr_goto (pc := 118) hV 39 dX12_namesOf_118 (by decide) ?_
              refine zr_sub (pc := 39) hV [some (ZR 0), some (ZI o), some (ZI (zq_or x2_39 (zq_or (zq_or r68 r80) 0))), some (ZI (x3_39 + 1)), none] (⟨rfl, rfl, rfl, rfl, trivial⟩) ?_
              exact ih39 (zq_or x2_39 (zq_or (zq_or r68 r80) 0)) (x3_39 + 1) (by omega) (by omega) (zr_nI_s (by omega) hi39_0 (by omega) (by omega) (by omega) pr68.2.2 pr80.2.2 (by rw [if_neg (by omega)])) (by omega) (by omega)
            · show V 96 [some (ZR 0), some (ZI o), some (ZI x2_39), some (ZI x3_39), some (ZI ((18 * o) + (6 * x3_39)))] [ZI (zq_or r68 r80), ZI x2_39] 41 σ
              refine zr_aload_n (pc := 96) hV dX12_namesOf_96 rfl rfl ?_
              refine zr_getR (pc := 97) hV 9 6 dX12_namesOf_97 fX12_35 rfl rfl rfl (by decide) (zx_g9 hσ) (by omega) ?_
              refine zr_iload (pc := 100) hV dX12_namesOf_100 rfl ?_
              refine zr_iconst (pc := 102) hV 4 dX12_namesOf_102 rfl ?_
              refine zr_iadd (pc := 103) hV dX12_namesOf_103 ?_
              refine zr_iald (pc := 104) hV dX12_namesOf_104 rfl (by decide) rfl (by omega) ?_
              have t28 := zx_ac4 hσ (((18 * o) + (6 * x3_39)) + 4) (by omega)
              refine zr_callSp (pc := 105) hV [ZI (σ 6 (((18 * o) + (6 * x3_39)) + 4))] (st := [ZI (zq_or r68 r80), ZI x2_39]) (c_X12_nameBit3 (σ := σ) (σ 6 (((18 * o) + (6 * x3_39)) + 4)) (by omega)) dX12_namesOf_105 mX12_307 (by decide) (Nat.le_of_ble_eq_true rfl) (Nat.le_refl _) (fun r105 hr105 pr105 => ?_)
              refine zr_goto (pc := 108) hV 112 dX12_namesOf_108 (by decide) ?_
              show V 112 [some (ZR 0), some (ZI o), some (ZI x2_39), some (ZI x3_39), some (ZI ((18 * o) + (6 * x3_39)))] [ZI r105, ZI (zq_or r68 r80), ZI x2_39] 41 σ
              refine zr_ior (pc := 112) hV dX12_namesOf_112 ?_
              have t29 := zq_or_b (x := zq_or r68 r80) (y := r105) 7 128 (by decide) (by decide) (by omega) (by omega)
              refine zr_ior (pc := 113) hV dX12_namesOf_113 ?_
              have t30 := zq_or_b (x := x2_39) (y := zq_or (zq_or r68 r80) r105) 7 128 (by decide) (by decide) (by omega) (by omega)
              refine zr_istore_n (pc := 114) hV [some (ZR 0), some (ZI o), some (ZI (zq_or x2_39 (zq_or (zq_or r68 r80) r105))), some (ZI x3_39), some (ZI ((18 * o) + (6 * x3_39)))] dX12_namesOf_114 rfl (by decide) rfl rfl ?_
              refine zr_iinc (pc := 115) hV [some (ZR 0), some (ZI o), some (ZI (zq_or x2_39 (zq_or (zq_or r68 r80) r105))), some (ZI (x3_39 + 1)), some (ZI ((18 * o) + (6 * x3_39)))] (x3_39 + 1) dX12_namesOf_115 rfl rfl (by decide) rfl rfl ?_
              refine zr_goto (pc := 118) hV 39 dX12_namesOf_118 (by decide) ?_
              refine zr_sub (pc := 39) hV [some (ZR 0), some (ZI o), some (ZI (zq_or x2_39 (zq_or (zq_or r68 r80) r105))), some (ZI (x3_39 + 1)), none] (⟨rfl, rfl, rfl, rfl, trivial⟩) ?_
              exact ih39 (zq_or x2_39 (zq_or (zq_or r68 r80) r105)) (x3_39 + 1) (by omega) (by omega) (zr_nI_s (by omega) hi39_0 (by omega) (by omega) (by omega) pr68.2.2 pr80.2.2 (by rw [if_pos (by omega)]; exact pr105.2.2)) (by omega) (by omega)
      exact L39 (3 - (0 : Int) + 1 : Int).toNat (zq_shl 1 (σ 4 o)) 0 (by omega) (by omega) (zr_nI_0 (by omega) (by first | rw [if_pos (by omega), if_pos (by omega)] | rw [if_pos (by omega), if_neg (by omega)] | rw [if_neg (by omega)])) (by omega) (by omega)
    · show V 19 [some (ZR 0), some (ZI o), none, none, none] [] 41 σ
      refine zr_bipush (pc := 19) hV 8 dX12_namesOf_19 (by decide) ?_
      refine zr_goto (pc := 21) hV 36 dX12_namesOf_21 (by decide) ?_
      show V 36 [some (ZR 0), some (ZI o), none, none, none] [ZI 8] 41 σ
      refine zr_istore_n (pc := 36) hV [some (ZR 0), some (ZI o), some (ZI 8), none, none] dX12_namesOf_36 rfl (by decide) rfl rfl ?_
      refine zr_iconst (pc := 37) hV 0 dX12_namesOf_37 rfl ?_
      refine zr_istore_n (pc := 38) hV [some (ZR 0), some (ZI o), some (ZI 8), some (ZI 0), none] dX12_namesOf_38 rfl (by decide) rfl rfl ?_
      have L39 : ∀ (fuel : Nat) (x2_39 : Int) (x3_39 : Int), (0 ≤ x2_39 ∧ x2_39 ≤ 127) → (0 ≤ x3_39 ∧ x3_39 ≤ 3) → (zq_hid (zr_nI (σ 6) o (σ 3 o) (σ 4 o) x3_39 x2_39)) → (x3_39 ≤ σ 5 o) → 3 - x3_39 < (fuel : Int) → V 39 [some (ZR 0), some (ZI o), some (ZI x2_39), some (ZI x3_39), none] [] 41 σ := by
        intro fuel
        induction fuel with
        | zero =>
          intro x2_39 x3_39 hx2_39 hx3_39 hi39_0 hi39_1 hm39
          exfalso; omega
        | succ fuel ih =>
          intro x2_39 x3_39 hx2_39 hx3_39 hi39_0 hi39_1 hm39
          have ih39 := ih
          show V 39 [some (ZR 0), some (ZI o), some (ZI x2_39), some (ZI x3_39), none] [] 41 σ
          refine zr_iload_n (pc := 39) hV dX12_namesOf_39 rfl rfl ?_
          refine zr_aload_n (pc := 40) hV dX12_namesOf_40 rfl rfl ?_
          refine zr_getR (pc := 41) hV 8 5 dX12_namesOf_41 fX12_32 rfl rfl rfl (by decide) (zx_g8 hσ) (by omega) ?_
          refine zr_iload_n (pc := 44) hV dX12_namesOf_44 rfl rfl ?_
          refine zr_iald (pc := 45) hV dX12_namesOf_45 rfl (by decide) rfl (by omega) ?_
          have t31 := zx_ga5 hσ o
          refine zr_icmp_ge (pc := 46) hV 121 dX12_namesOf_46 (by decide) (by omega) (by omega) (fun c32 => ?_) (fun c32 => ?_)
          · show V 121 [some (ZR 0), some (ZI o), some (ZI x2_39), some (ZI x3_39), none] [] 41 σ
            refine zr_iload_n (pc := 121) hV dX12_namesOf_121 rfl rfl ?_
            exact zr_iret (pc := 122) hV dX12_namesOf_122 rfl rfl ⟨rfl, _, rfl, (by omega), ⟨⟨by omega, by omega⟩, by have h := hi39_0; unfold zq_hid at h; rw [show σ 5 o = x3_39 by omega]; exact h⟩⟩
          · show V 49 [some (ZR 0), some (ZI o), some (ZI x2_39), some (ZI x3_39), none] [] 41 σ
            have zb0 := zx_ac0 hσ (18 * o + 6 * x3_39) (by omega)
            have zb1 := zx_ac1 hσ ((18 * o + 6 * x3_39) + 1) (by omega)
            have zb4 := zx_ac4 hσ ((18 * o + 6 * x3_39) + 4) (by omega)
            have zb5 : 0 ≤ σ 6 ((18 * o + 6 * x3_39) + 4) := q1 x3_39 (by omega) (by omega)
            refine zr_bipush (pc := 49) hV 18 dX12_namesOf_49 (by decide) ?_
            refine zr_iload_n (pc := 51) hV dX12_namesOf_51 rfl rfl ?_
            refine zr_imul (pc := 52) hV dX12_namesOf_52 ?_
            refine zr_bipush (pc := 53) hV 6 dX12_namesOf_53 (by decide) ?_
            refine zr_iload_n (pc := 55) hV dX12_namesOf_55 rfl rfl ?_
            refine zr_imul (pc := 56) hV dX12_namesOf_56 ?_
            refine zr_iadd (pc := 57) hV dX12_namesOf_57 ?_
            refine zr_istore (pc := 58) hV [some (ZR 0), some (ZI o), some (ZI x2_39), some (ZI x3_39), some (ZI ((18 * o) + (6 * x3_39)))] dX12_namesOf_58 (by decide) rfl rfl ?_
            refine zr_iload_n (pc := 60) hV dX12_namesOf_60 rfl rfl ?_
            refine zr_aload_n (pc := 61) hV dX12_namesOf_61 rfl rfl ?_
            refine zr_getR (pc := 62) hV 9 6 dX12_namesOf_62 fX12_35 rfl rfl rfl (by decide) (zx_g9 hσ) (by omega) ?_
            refine zr_iload (pc := 65) hV dX12_namesOf_65 rfl ?_
            refine zr_iald (pc := 67) hV dX12_namesOf_67 rfl (by decide) rfl (by omega) ?_
            have t33 := zx_ac0 hσ ((18 * o) + (6 * x3_39)) (by omega)
            refine zr_callSp (pc := 68) hV [ZI (σ 6 ((18 * o) + (6 * x3_39)))] (st := [ZI x2_39]) (c_X12_nameBit3 (σ := σ) (σ 6 ((18 * o) + (6 * x3_39))) (by omega)) dX12_namesOf_68 mX12_307 (by decide) (Nat.le_of_ble_eq_true rfl) (Nat.le_refl _) (fun r68 hr68 pr68 => ?_)
            refine zr_aload_n (pc := 71) hV dX12_namesOf_71 rfl rfl ?_
            refine zr_getR (pc := 72) hV 9 6 dX12_namesOf_72 fX12_35 rfl rfl rfl (by decide) (zx_g9 hσ) (by omega) ?_
            refine zr_iload (pc := 75) hV dX12_namesOf_75 rfl ?_
            refine zr_iconst (pc := 77) hV 1 dX12_namesOf_77 rfl ?_
            refine zr_iadd (pc := 78) hV dX12_namesOf_78 ?_
            refine zr_iald (pc := 79) hV dX12_namesOf_79 rfl (by decide) rfl (by omega) ?_
            have t34 := zx_ac1 hσ (((18 * o) + (6 * x3_39)) + 1) (by omega)
            refine zr_callSp (pc := 80) hV [ZI (σ 6 (((18 * o) + (6 * x3_39)) + 1))] (st := [ZI r68, ZI x2_39]) (c_X12_nameBit3 (σ := σ) (σ 6 (((18 * o) + (6 * x3_39)) + 1)) (by omega)) dX12_namesOf_80 mX12_307 (by decide) (Nat.le_of_ble_eq_true rfl) (Nat.le_refl _) (fun r80 hr80 pr80 => ?_)
            refine zr_ior (pc := 83) hV dX12_namesOf_83 ?_
            have t35 := zq_or_b (x := r68) (y := r80) 7 128 (by decide) (by decide) (by omega) (by omega)
            refine zr_aload_n (pc := 84) hV dX12_namesOf_84 rfl rfl ?_
            refine zr_getR (pc := 85) hV 9 6 dX12_namesOf_85 fX12_35 rfl rfl rfl (by decide) (zx_g9 hσ) (by omega) ?_
            refine zr_iload (pc := 88) hV dX12_namesOf_88 rfl ?_
            refine zr_iconst (pc := 90) hV 3 dX12_namesOf_90 rfl ?_
            refine zr_iadd (pc := 91) hV dX12_namesOf_91 ?_
            refine zr_iald (pc := 92) hV dX12_namesOf_92 rfl (by decide) rfl (by omega) ?_
            have t36 := zx_ac3 hσ (((18 * o) + (6 * x3_39)) + 3) (by omega)
            refine zr_if_le (pc := 93) hV 111 dX12_namesOf_93 (by decide) (by omega) (fun c37 => ?_) (fun c37 => ?_)
            · show V 111 [some (ZR 0), some (ZI o), some (ZI x2_39), some (ZI x3_39), some (ZI ((18 * o) + (6 * x3_39)))] [ZI (zq_or r68 r80), ZI x2_39] 41 σ
              refine zr_iconst (pc := 111) hV 0 dX12_namesOf_111 rfl ?_
              show V 112 [some (ZR 0), some (ZI o), some (ZI x2_39), some (ZI x3_39), some (ZI ((18 * o) + (6 * x3_39)))] [ZI 0, ZI (zq_or r68 r80), ZI x2_39] 41 σ
              refine zr_ior (pc := 112) hV dX12_namesOf_112 ?_
              have t38 := zq_or_b (x := zq_or r68 r80) (y := 0) 7 128 (by decide) (by decide) (by omega) (by omega)
              refine zr_ior (pc := 113) hV dX12_namesOf_113 ?_
              have t39 := zq_or_b (x := x2_39) (y := zq_or (zq_or r68 r80) 0) 7 128 (by decide) (by decide) (by omega) (by omega)
              refine zr_istore_n (pc := 114) hV [some (ZR 0), some (ZI o), some (ZI (zq_or x2_39 (zq_or (zq_or r68 r80) 0))), some (ZI x3_39), some (ZI ((18 * o) + (6 * x3_39)))] dX12_namesOf_114 rfl (by decide) rfl rfl ?_
              refine zr_iinc (pc := 115) hV [some (ZR 0), some (ZI o), some (ZI (zq_or x2_39 (zq_or (zq_or r68 r80) 0))), some (ZI (x3_39 + 1)), some (ZI ((18 * o) + (6 * x3_39)))] (x3_39 + 1) dX12_namesOf_115 rfl rfl (by decide) rfl rfl ?_
              refine zr_goto (pc := 118) hV 39 dX12_namesOf_118 (by decide) ?_
              refine zr_sub (pc := 39) hV [some (ZR 0), some (ZI o), some (ZI (zq_or x2_39 (zq_or (zq_or r68 r80) 0))), some (ZI (x3_39 + 1)), none] (⟨rfl, rfl, rfl, rfl, trivial⟩) ?_
              exact ih39 (zq_or x2_39 (zq_or (zq_or r68 r80) 0)) (x3_39 + 1) (by omega) (by omega) (zr_nI_s (by omega) hi39_0 (by omega) (by omega) (by omega) pr68.2.2 pr80.2.2 (by rw [if_neg (by omega)])) (by omega) (by omega)
            · show V 96 [some (ZR 0), some (ZI o), some (ZI x2_39), some (ZI x3_39), some (ZI ((18 * o) + (6 * x3_39)))] [ZI (zq_or r68 r80), ZI x2_39] 41 σ
              refine zr_aload_n (pc := 96) hV dX12_namesOf_96 rfl rfl ?_
              refine zr_getR (pc := 97) hV 9 6 dX12_namesOf_97 fX12_35 rfl rfl rfl (by decide) (zx_g9 hσ) (by omega) ?_
              refine zr_iload (pc := 100) hV dX12_namesOf_100 rfl ?_
              refine zr_iconst (pc := 102) hV 4 dX12_namesOf_102 rfl ?_
              refine zr_iadd (pc := 103) hV dX12_namesOf_103 ?_
              refine zr_iald (pc := 104) hV dX12_namesOf_104 rfl (by decide) rfl (by omega) ?_
              have t40 := zx_ac4 hσ (((18 * o) + (6 * x3_39)) + 4) (by omega)
              refine zr_callSp (pc := 105) hV [ZI (σ 6 (((18 * o) + (6 * x3_39)) + 4))] (st := [ZI (zq_or r68 r80), ZI x2_39]) (c_X12_nameBit3 (σ := σ) (σ 6 (((18 * o) + (6 * x3_39)) + 4)) (by omega)) dX12_namesOf_105 mX12_307 (by decide) (Nat.le_of_ble_eq_true rfl) (Nat.le_refl _) (fun r105 hr105 pr105 => ?_)
              refine zr_goto (pc := 108) hV 112 dX12_namesOf_108 (by decide) ?_
              show V 112 [some (ZR 0), some (ZI o), some (ZI x2_39), some (ZI x3_39), some (ZI ((18 * o) + (6 * x3_39)))] [ZI r105, ZI (zq_or r68 r80), ZI x2_39] 41 σ
              refine zr_ior (pc := 112) hV dX12_namesOf_112 ?_
              have t41 := zq_or_b (x := zq_or r68 r80) (y := r105) 7 128 (by decide) (by decide) (by omega) (by omega)
              refine zr_ior (pc := 113) hV dX12_namesOf_113 ?_
              have t42 := zq_or_b (x := x2_39) (y := zq_or (zq_or r68 r80) r105) 7 128 (by decide) (by decide) (by omega) (by omega)
              refine zr_istore_n (pc := 114) hV [some (ZR 0), some (ZI o), some (ZI (zq_or x2_39 (zq_or (zq_or r68 r80) r105))), some (ZI x3_39), some (ZI ((18 * o) + (6 * x3_39)))] dX12_namesOf_114 rfl (by decide) rfl rfl ?_
              refine zr_iinc (pc := 115) hV [some (ZR 0), some (ZI o), some (ZI (zq_or x2_39 (zq_or (zq_or r68 r80) r105))), some (ZI (x3_39 + 1)), some (ZI ((18 * o) + (6 * x3_39)))] (x3_39 + 1) dX12_namesOf_115 rfl rfl (by decide) rfl rfl ?_
              refine zr_goto (pc := 118) hV 39 dX12_namesOf_118 (by decide) ?_
              refine zr_sub (pc := 39) hV [some (ZR 0), some (ZI o), some (ZI (zq_or x2_39 (zq_or (zq_or r68 r80) r105))), some (ZI (x3_39 + 1)), none] (⟨rfl, rfl, rfl, rfl, trivial⟩) ?_
              exact ih39 (zq_or x2_39 (zq_or (zq_or r68 r80) r105)) (x3_39 + 1) (by omega) (by omega) (zr_nI_s (by omega) hi39_0 (by omega) (by omega) (by omega) pr68.2.2 pr80.2.2 (by rw [if_pos (by omega)]; exact pr105.2.2)) (by omega) (by omega)
      exact L39 (3 - (0 : Int) + 1 : Int).toNat 8 0 (by omega) (by omega) (zr_nI_0 (by omega) (by first | rw [if_pos (by omega), if_pos (by omega)] | rw [if_pos (by omega), if_neg (by omega)] | rw [if_neg (by omega)])) (by omega) (by omega)
set_option maxHeartbeats 800000 in
theorem c_X12_sizeOf2 {σ : zq_S} (store names : Int) (q0 : 0 ≤ store ∧ store ≤ 8) (q1 : zq_in names) : zq_C zx_w yX12_sizeOf cX12_sizeOf 3 (some .int) 0 0 41 41 [ZI store, ZI names] σ (zq_pp σ (fun r => 1 ≤ r ∧ r ≤ 4 ∧ r = zr_sz names store)) := by
  refine zq_C_of (by decide) (Nat.le_refl _) (Nat.le_of_ble_eq_true rfl) [some (ZI store), some (ZI names), none] rfl (fun V hV => ?_)
  show V 0 [some (ZI store), some (ZI names), none] [] 41 σ
  refine zr_iload_n (pc := 0) hV dX12_sizeOf_0 rfl rfl ?_
  refine zr_iconst (pc := 1) hV 3 dX12_sizeOf_1 rfl ?_
  refine zr_icmp_ne (pc := 2) hV 18 dX12_sizeOf_2 (by decide) (by omega) ⟨by decide, by decide⟩ (fun c1 => ?_) (fun c1 => ?_)
  · show V 18 [some (ZI store), some (ZI names), none] [] 41 σ
    refine zr_iload_n (pc := 18) hV dX12_sizeOf_18 rfl rfl ?_
    refine zr_iconst (pc := 19) hV 3 dX12_sizeOf_19 rfl ?_
    refine zr_icmp_ge (pc := 20) hV 29 dX12_sizeOf_20 (by decide) (by omega) ⟨by decide, by decide⟩ (fun c2 => ?_) (fun c2 => ?_)
    · show V 29 [some (ZI store), some (ZI names), none] [] 41 σ
      refine zr_iload_n (pc := 29) hV dX12_sizeOf_29 rfl rfl ?_
      refine zr_iconst (pc := 30) hV 4 dX12_sizeOf_30 rfl ?_
      refine zr_icmp_ne (pc := 31) hV 39 dX12_sizeOf_31 (by decide) (by omega) ⟨by decide, by decide⟩ (fun c3 => ?_) (fun c3 => ?_)
      · show V 39 [some (ZI store), some (ZI names), none] [] 41 σ
        refine zr_bipush (pc := 39) hV 32 dX12_sizeOf_39 (by decide) ?_
        show V 41 [some (ZI store), some (ZI names), none] [ZI 32] 41 σ
        refine zr_istore_n (pc := 41) hV [some (ZI store), some (ZI names), some (ZI 32)] dX12_sizeOf_41 rfl (by decide) rfl rfl ?_
        refine zr_iload_n (pc := 42) hV dX12_sizeOf_42 rfl rfl ?_
        refine zr_iload_n (pc := 43) hV dX12_sizeOf_43 rfl rfl ?_
        refine zr_iand (pc := 44) hV dX12_sizeOf_44 ?_
        have t4 := zq_and_nnR (x := names) (y := 32) (by omega)
        refine zr_if_eq (pc := 45) hV 52 dX12_sizeOf_45 (by decide) (by omega) (fun c5 => ?_) (fun c5 => ?_)
        · show V 52 [some (ZI store), some (ZI names), some (ZI 32)] [] 41 σ
          refine zr_iconst (pc := 52) hV 1 dX12_sizeOf_52 rfl ?_
          show V 53 [some (ZI store), some (ZI names), some (ZI 32)] [ZI 1] 41 σ
          exact zr_iret (pc := 53) hV dX12_sizeOf_53 rfl rfl ⟨rfl, _, rfl, ⟨by decide, by decide⟩, ⟨by omega, by omega, by rw [zr_sz_o (b := 32) (by omega) (by unfold zr_bt; first | rw [if_pos (by omega)] | rw [if_neg (by omega), if_pos (by omega)] | rw [if_neg (by omega), if_neg (by omega)])]; first | rw [if_pos (by omega)] | rw [if_neg (by omega)]⟩⟩
        · show V 48 [some (ZI store), some (ZI names), some (ZI 32)] [] 41 σ
          refine zr_iconst (pc := 48) hV 4 dX12_sizeOf_48 rfl ?_
          refine zr_goto (pc := 49) hV 53 dX12_sizeOf_49 (by decide) ?_
          show V 53 [some (ZI store), some (ZI names), some (ZI 32)] [ZI 4] 41 σ
          exact zr_iret (pc := 53) hV dX12_sizeOf_53 rfl rfl ⟨rfl, _, rfl, ⟨by decide, by decide⟩, ⟨by omega, by omega, by rw [zr_sz_o (b := 32) (by omega) (by unfold zr_bt; first | rw [if_pos (by omega)] | rw [if_neg (by omega), if_pos (by omega)] | rw [if_neg (by omega), if_neg (by omega)])]; first | rw [if_pos (by omega)] | rw [if_neg (by omega)]⟩⟩
      · show V 34 [some (ZI store), some (ZI names), none] [] 41 σ
        refine zr_bipush (pc := 34) hV 16 dX12_sizeOf_34 (by decide) ?_
        refine zr_goto (pc := 36) hV 41 dX12_sizeOf_36 (by decide) ?_
        show V 41 [some (ZI store), some (ZI names), none] [ZI 16] 41 σ
        refine zr_istore_n (pc := 41) hV [some (ZI store), some (ZI names), some (ZI 16)] dX12_sizeOf_41 rfl (by decide) rfl rfl ?_
        refine zr_iload_n (pc := 42) hV dX12_sizeOf_42 rfl rfl ?_
        refine zr_iload_n (pc := 43) hV dX12_sizeOf_43 rfl rfl ?_
        refine zr_iand (pc := 44) hV dX12_sizeOf_44 ?_
        have t6 := zq_and_nnR (x := names) (y := 16) (by omega)
        refine zr_if_eq (pc := 45) hV 52 dX12_sizeOf_45 (by decide) (by omega) (fun c7 => ?_) (fun c7 => ?_)
        · show V 52 [some (ZI store), some (ZI names), some (ZI 16)] [] 41 σ
          refine zr_iconst (pc := 52) hV 1 dX12_sizeOf_52 rfl ?_
          show V 53 [some (ZI store), some (ZI names), some (ZI 16)] [ZI 1] 41 σ
          exact zr_iret (pc := 53) hV dX12_sizeOf_53 rfl rfl ⟨rfl, _, rfl, ⟨by decide, by decide⟩, ⟨by omega, by omega, by rw [zr_sz_o (b := 16) (by omega) (by unfold zr_bt; first | rw [if_pos (by omega)] | rw [if_neg (by omega), if_pos (by omega)] | rw [if_neg (by omega), if_neg (by omega)])]; first | rw [if_pos (by omega)] | rw [if_neg (by omega)]⟩⟩
        · show V 48 [some (ZI store), some (ZI names), some (ZI 16)] [] 41 σ
          refine zr_iconst (pc := 48) hV 4 dX12_sizeOf_48 rfl ?_
          refine zr_goto (pc := 49) hV 53 dX12_sizeOf_49 (by decide) ?_
          show V 53 [some (ZI store), some (ZI names), some (ZI 16)] [ZI 4] 41 σ
          exact zr_iret (pc := 53) hV dX12_sizeOf_53 rfl rfl ⟨rfl, _, rfl, ⟨by decide, by decide⟩, ⟨by omega, by omega, by rw [zr_sz_o (b := 16) (by omega) (by unfold zr_bt; first | rw [if_pos (by omega)] | rw [if_neg (by omega), if_pos (by omega)] | rw [if_neg (by omega), if_neg (by omega)])]; first | rw [if_pos (by omega)] | rw [if_neg (by omega)]⟩⟩
    · show V 23 [some (ZI store), some (ZI names), none] [] 41 σ
      refine zr_iconst (pc := 23) hV 1 dX12_sizeOf_23 rfl ?_
      refine zr_iload_n (pc := 24) hV dX12_sizeOf_24 rfl rfl ?_
      refine zr_ishl (pc := 25) hV dX12_sizeOf_25 ?_
      have t8 := zx_shl_one (y := store) 2 4 (by decide) (by decide) (by omega)
      refine zr_goto (pc := 26) hV 41 dX12_sizeOf_26 (by decide) ?_
      show V 41 [some (ZI store), some (ZI names), none] [ZI (zq_shl 1 store)] 41 σ
      refine zr_istore_n (pc := 41) hV [some (ZI store), some (ZI names), some (ZI (zq_shl 1 store))] dX12_sizeOf_41 rfl (by decide) rfl rfl ?_
      refine zr_iload_n (pc := 42) hV dX12_sizeOf_42 rfl rfl ?_
      refine zr_iload_n (pc := 43) hV dX12_sizeOf_43 rfl rfl ?_
      refine zr_iand (pc := 44) hV dX12_sizeOf_44 ?_
      have t9 := zq_and_nnR (x := names) (y := zq_shl 1 store) (by omega)
      refine zr_if_eq (pc := 45) hV 52 dX12_sizeOf_45 (by decide) (by omega) (fun c10 => ?_) (fun c10 => ?_)
      · show V 52 [some (ZI store), some (ZI names), some (ZI (zq_shl 1 store))] [] 41 σ
        refine zr_iconst (pc := 52) hV 1 dX12_sizeOf_52 rfl ?_
        show V 53 [some (ZI store), some (ZI names), some (ZI (zq_shl 1 store))] [ZI 1] 41 σ
        exact zr_iret (pc := 53) hV dX12_sizeOf_53 rfl rfl ⟨rfl, _, rfl, ⟨by decide, by decide⟩, ⟨by omega, by omega, by rw [zr_sz_o (b := zq_shl 1 store) (by omega) (by unfold zr_bt; first | rw [if_pos (by omega)] | rw [if_neg (by omega), if_pos (by omega)] | rw [if_neg (by omega), if_neg (by omega)])]; first | rw [if_pos (by omega)] | rw [if_neg (by omega)]⟩⟩
      · show V 48 [some (ZI store), some (ZI names), some (ZI (zq_shl 1 store))] [] 41 σ
        refine zr_iconst (pc := 48) hV 4 dX12_sizeOf_48 rfl ?_
        refine zr_goto (pc := 49) hV 53 dX12_sizeOf_49 (by decide) ?_
        show V 53 [some (ZI store), some (ZI names), some (ZI (zq_shl 1 store))] [ZI 4] 41 σ
        exact zr_iret (pc := 53) hV dX12_sizeOf_53 rfl rfl ⟨rfl, _, rfl, ⟨by decide, by decide⟩, ⟨by omega, by omega, by rw [zr_sz_o (b := zq_shl 1 store) (by omega) (by unfold zr_bt; first | rw [if_pos (by omega)] | rw [if_neg (by omega), if_pos (by omega)] | rw [if_neg (by omega), if_neg (by omega)])]; first | rw [if_pos (by omega)] | rw [if_neg (by omega)]⟩⟩
  · show V 5 [some (ZI store), some (ZI names), none] [] 41 σ
    refine zr_iload_n (pc := 5) hV dX12_sizeOf_5 rfl rfl ?_
    refine zr_bipush (pc := 6) hV 8 dX12_sizeOf_6 (by decide) ?_
    refine zr_iand (pc := 8) hV dX12_sizeOf_8 ?_
    have t11 := zq_and_nnR (x := names) (y := 8) (by omega)
    refine zr_if_eq (pc := 9) hV 16 dX12_sizeOf_9 (by decide) (by omega) (fun c12 => ?_) (fun c12 => ?_)
    · show V 16 [some (ZI store), some (ZI names), none] [] 41 σ
      refine zr_iconst (pc := 16) hV 1 dX12_sizeOf_16 rfl ?_
      show V 17 [some (ZI store), some (ZI names), none] [ZI 1] 41 σ
      exact zr_iret (pc := 17) hV dX12_sizeOf_17 rfl rfl ⟨rfl, _, rfl, ⟨by decide, by decide⟩, ⟨by omega, by omega, by rw [zr_sz_3 (by omega)]; first | rw [if_pos (by omega)] | rw [if_neg (by omega)]⟩⟩
    · show V 12 [some (ZI store), some (ZI names), none] [] 41 σ
      refine zr_iconst (pc := 12) hV 2 dX12_sizeOf_12 rfl ?_
      refine zr_goto (pc := 13) hV 17 dX12_sizeOf_13 (by decide) ?_
      show V 17 [some (ZI store), some (ZI names), none] [ZI 2] 41 σ
      exact zr_iret (pc := 17) hV dX12_sizeOf_17 rfl rfl ⟨rfl, _, rfl, ⟨by decide, by decide⟩, ⟨by omega, by omega, by rw [zr_sz_3 (by omega)]; first | rw [if_pos (by omega)] | rw [if_neg (by omega)]⟩⟩
set_option maxHeartbeats 800000 in
theorem c_X12_statesOf2 {σ : zq_S} (names : Int) (q0 : zq_in names) : zq_C zx_w yX12_statesOf cX12_statesOf 3 (some .int) 1 22 41 41 [ZI names] σ (zq_pp σ (fun r => 1 ≤ r ∧ r ≤ 262144 ∧ r = zr_m names 9)) := by
  refine zq_C_of (by decide) (Nat.le_refl _) (Nat.le_of_ble_eq_true rfl) [some (ZI names), none, none] rfl (fun V hV => ?_)
  show V 0 [some (ZI names), none, none] [] 41 σ
  refine zr_iconst (pc := 0) hV 1 dX12_statesOf_0 rfl ?_
  refine zr_istore_n (pc := 1) hV [some (ZI names), some (ZI 1), none] dX12_statesOf_1 rfl (by decide) rfl rfl ?_
  refine zr_iconst (pc := 2) hV 0 dX12_statesOf_2 rfl ?_
  refine zr_istore_n (pc := 3) hV [some (ZI names), some (ZI 1), some (ZI 0)] dX12_statesOf_3 rfl (by decide) rfl rfl ?_
  have L4 : ∀ (fuel : Nat) (x1_4 : Int) (x2_4 : Int), (1 ≤ x1_4 ∧ x1_4 ≤ 262144) → (0 ≤ x2_4 ∧ x2_4 ≤ 9) → (zq_hid (x1_4 = zr_m names x2_4.toNat)) → (x2_4 ≤ 9) → 9 - x2_4 < (fuel : Int) → V 4 [some (ZI names), some (ZI x1_4), some (ZI x2_4)] [] 41 σ := by
    intro fuel
    induction fuel with
    | zero =>
      intro x1_4 x2_4 hx1_4 hx2_4 hi4_0 hi4_1 hm4
      exfalso; omega
    | succ fuel ih =>
      intro x1_4 x2_4 hx1_4 hx2_4 hi4_0 hi4_1 hm4
      have ih4 := ih
      show V 4 [some (ZI names), some (ZI x1_4), some (ZI x2_4)] [] 41 σ
      refine zr_iload_n (pc := 4) hV dX12_statesOf_4 rfl rfl ?_
      refine zr_bipush (pc := 5) hV 9 dX12_statesOf_5 (by decide) ?_
      refine zr_icmp_ge (pc := 7) hV 24 dX12_statesOf_7 (by decide) (by omega) ⟨by decide, by decide⟩ (fun c1 => ?_) (fun c1 => ?_)
      · show V 24 [some (ZI names), some (ZI x1_4), some (ZI x2_4)] [] 41 σ
        refine zr_iload_n (pc := 24) hV dX12_statesOf_24 rfl rfl ?_
        exact zr_iret (pc := 25) hV dX12_statesOf_25 rfl rfl ⟨rfl, _, rfl, (by omega), (by have h := hi4_0; unfold zq_hid at h; rw [show x2_4.toNat = 9 by omega] at h; have b := zr_m_b names 9; rw [show (4 : Int) ^ 9 = 262144 from rfl] at b; exact ⟨by omega, by omega, h⟩)⟩
      · show V 10 [some (ZI names), some (ZI x1_4), some (ZI x2_4)] [] 41 σ
        refine zr_iload_n (pc := 10) hV dX12_statesOf_10 rfl rfl ?_
        refine zr_iload_n (pc := 11) hV dX12_statesOf_11 rfl rfl ?_
        refine zr_iload_n (pc := 12) hV dX12_statesOf_12 rfl rfl ?_
        refine zr_callSp (pc := 13) hV [ZI x2_4, ZI names] (st := [ZI x1_4]) (c_X12_sizeOf2 (σ := σ) x2_4 names (by omega) (by omega)) dX12_statesOf_13 mX12_310 (by decide) (Nat.le_of_ble_eq_true rfl) (Nat.le_refl _) (fun r13 hr13 pr13 => ?_)
        refine zr_imul (pc := 16) hV dX12_statesOf_16 ?_
        have t2 := zq_mul_b (x := x1_4) (y := r13) 262144 4 (by omega) (by omega)
        have ns13 : x1_4 * r13 = zr_m names (x2_4.toNat + 1) := (by have h := hi4_0; unfold zq_hid at h; show _ = zr_m names x2_4.toNat * zr_sz names ((x2_4.toNat : Nat) : Int); rw [← h, show ((x2_4.toNat : Nat) : Int) = x2_4 by omega, ← pr13.2.2])
        have nb13 := zr_m_9 (N := names) (n := x2_4.toNat + 1) (by omega)
        refine zr_istore_n (pc := 17) hV [some (ZI names), some (ZI (x1_4 * r13)), some (ZI x2_4)] dX12_statesOf_17 rfl (by decide) rfl rfl ?_
        refine zr_iinc (pc := 18) hV [some (ZI names), some (ZI (x1_4 * r13)), some (ZI (x2_4 + 1))] (x2_4 + 1) dX12_statesOf_18 rfl rfl (by decide) rfl rfl ?_
        refine zr_goto (pc := 21) hV 4 dX12_statesOf_21 (by decide) ?_
        exact ih4 (x1_4 * r13) (x2_4 + 1) (by omega) (by omega) (by unfold zq_hid; rw [show (x2_4 + 1).toNat = x2_4.toNat + 1 by omega]; exact ns13) (by omega) (by omega)
  exact L4 (9 - (0 : Int) + 1 : Int).toNat 1 0 (by omega) (by omega) rfl (by omega) (by omega)
set_option maxHeartbeats 800000 in
theorem c_X12_setNarrow2 {σ : zq_S} (hσ : zx_T σ) (number names : Int) (q0 : 0 ≤ number) (q1 : zq_in number) (q2 : zq_in names) : zq_C zx_w yX12_setNarrow cX12_setNarrow 6 (none) 1 22 41 41 [ZR 0, ZI number, ZI names] σ (zq_pv (fun τ => zx_T τ ∧ (∀ a i : Int, (a ≠ 13) → τ a i = σ a i) ∧ (True) ∧ zq_hid (∀ x, 0 ≤ x → x ≤ 8 → τ 13 x = zr_d names number x))) := by
  refine zq_C_of (by decide) (Nat.le_refl _) (Nat.le_of_ble_eq_true rfl) [some (ZR 0), some (ZI number), some (ZI names), none, none, none] rfl (fun V hV => ?_)
  show V 0 [some (ZR 0), some (ZI number), some (ZI names), none, none, none] [] 41 σ
  refine zr_iload_n (pc := 0) hV dX12_setNarrow_0 rfl rfl ?_
  refine zr_istore_n (pc := 1) hV [some (ZR 0), some (ZI number), some (ZI names), some (ZI number), none, none] dX12_setNarrow_1 rfl (by decide) rfl rfl ?_
  refine zr_iconst (pc := 2) hV 0 dX12_setNarrow_2 rfl ?_
  refine zr_istore (pc := 3) hV [some (ZR 0), some (ZI number), some (ZI names), some (ZI number), some (ZI 0), none] dX12_setNarrow_3 (by decide) rfl rfl ?_
  have L5 : ∀ (fuel : Nat) (x3_5 : Int) (x4_5 : Int) (σ_5 : zq_S), (0 ≤ x3_5 ∧ x3_5 ≤ 2147483647) → (0 ≤ x4_5 ∧ x4_5 ≤ 9) → (zx_T σ_5) → (∀ a i : Int, (a ≠ 13) → σ_5 a i = σ a i) → (zq_hid (x3_5 = zr_l names number x4_5.toNat)) → (zq_hid (∀ x, 0 ≤ x → x < x4_5 → σ_5 13 x = zr_d names number x)) → (x4_5 ≤ 9) → 9 - x4_5 < (fuel : Int) → V 5 [some (ZR 0), none, some (ZI names), some (ZI x3_5), some (ZI x4_5), none] [] 41 σ_5 := by
    intro fuel
    induction fuel with
    | zero =>
      intro x3_5 x4_5 σ_5 hx3_5 hx4_5 hσ_5 hFσ_5 hi5_0 hi5_1 hi5_2 hm5
      exfalso; omega
    | succ fuel ih =>
      intro x3_5 x4_5 σ_5 hx3_5 hx4_5 hσ_5 hFσ_5 hi5_0 hi5_1 hi5_2 hm5
      have ih5 := ih
      show V 5 [some (ZR 0), none, some (ZI names), some (ZI x3_5), some (ZI x4_5), none] [] 41 σ_5
      refine zr_iload (pc := 5) hV dX12_setNarrow_5 rfl ?_
      refine zr_bipush (pc := 7) hV 9 dX12_setNarrow_7 (by decide) ?_
      refine zr_icmp_ge (pc := 9) hV 42 dX12_setNarrow_9 (by decide) (by omega) ⟨by decide, by decide⟩ (fun c1 => ?_) (fun c1 => ?_)
      · show V 42 [some (ZR 0), none, some (ZI names), some (ZI x3_5), some (ZI x4_5), none] [] 41 σ_5
        exact zr_vret (pc := 42) hV dX12_setNarrow_42 rfl rfl ⟨rfl, hσ_5, hFσ_5, trivial, (show ∀ x, 0 ≤ x → x ≤ 8 → σ_5 13 x = zr_d names number x from (fun x h0x h8x => hi5_1 x h0x (by omega)))⟩
      · show V 12 [some (ZR 0), none, some (ZI names), some (ZI x3_5), some (ZI x4_5), none] [] 41 σ_5
        refine zr_iload (pc := 12) hV dX12_setNarrow_12 rfl ?_
        refine zr_iload_n (pc := 14) hV dX12_setNarrow_14 rfl rfl ?_
        refine zr_callSp (pc := 15) hV [ZI x4_5, ZI names] (st := []) (c_X12_sizeOf2 (σ := σ_5) x4_5 names (by omega) (by omega)) dX12_setNarrow_15 mX12_310 (by decide) (Nat.le_of_ble_eq_true rfl) (Nat.le_refl _) (fun r15 hr15 pr15 => ?_)
        refine zr_istore (pc := 18) hV [some (ZR 0), none, some (ZI names), some (ZI x3_5), some (ZI x4_5), some (ZI r15)] dX12_setNarrow_18 (by decide) rfl rfl ?_
        have qd := zq_div_v (x := x3_5) (y := r15) (by omega) (by omega)
        have qr := zq_rem_v (x := x3_5) (y := r15) (by omega) (by omega)
        refine zr_aload_n (pc := 20) hV dX12_setNarrow_20 rfl rfl ?_
        refine zr_getR (pc := 21) hV 21 13 dX12_setNarrow_21 fX12_56 rfl rfl rfl (by decide) (zx_g21 hσ_5) (by omega) ?_
        refine zr_iload (pc := 24) hV dX12_setNarrow_24 rfl ?_
        refine zr_iload_n (pc := 26) hV dX12_setNarrow_26 rfl rfl ?_
        refine zr_iload (pc := 27) hV dX12_setNarrow_27 rfl ?_
        refine zr_irem (pc := 29) hV dX12_setNarrow_29 (by omega) (by omega) ?_
        have t2 := zq_rem_b (x := x3_5) (y := r15) (by omega) (by omega)
        refine zr_iast (pc := 30) hV dX12_setNarrow_30 rfl (by decide) rfl (by omega) (fun σ30 eσ30 => ?_)
        have hσ30 : zx_T σ30 := zx_ua13 eσ30 hσ_5 (by omega)
        have hFσ30 : ∀ a i : Int, (a ≠ 13) → σ30 a i = σ a i := fun a i h => by rw [eσ30, zq_up_ne (fun q => h q.1)]; exact hFσ_5 a i h
        refine zr_iload_n (pc := 31) hV dX12_setNarrow_31 rfl rfl ?_
        refine zr_iload (pc := 32) hV dX12_setNarrow_32 rfl ?_
        refine zr_idiv (pc := 34) hV dX12_setNarrow_34 (by omega) (by omega) ?_
        have t3 := zq_div_b (x := x3_5) (y := r15) (by omega) (by omega)
        refine zr_istore_n (pc := 35) hV [some (ZR 0), none, some (ZI names), some (ZI (zq_div x3_5 r15)), some (ZI x4_5), some (ZI r15)] dX12_setNarrow_35 rfl (by decide) rfl rfl ?_
        refine zr_iinc (pc := 36) hV [some (ZR 0), none, some (ZI names), some (ZI (zq_div x3_5 r15)), some (ZI (x4_5 + 1)), some (ZI r15)] (x4_5 + 1) dX12_setNarrow_36 rfl rfl (by decide) rfl rfl ?_
        refine zr_goto (pc := 39) hV 5 dX12_setNarrow_39 (by decide) ?_
        refine zr_sub (pc := 5) hV [some (ZR 0), none, some (ZI names), some (ZI (zq_div x3_5 r15)), some (ZI (x4_5 + 1)), none] (⟨rfl, rfl, rfl, rfl, trivial⟩) ?_
        exact ih5 (zq_div x3_5 r15) (x4_5 + 1) σ30 (by omega) (by omega) hσ30 hFσ30 (by have h := hi5_0; unfold zq_hid at h ⊢; rw [show (x4_5 + 1).toNat = x4_5.toNat + 1 by omega]; show _ = zr_l names number x4_5.toNat / zr_sz names ((x4_5.toNat : Nat) : Int); rw [← h, show ((x4_5.toNat : Nat) : Int) = x4_5 by omega, ← pr15.2.2]; omega) (fun x h0x h1x => if hc : x = x4_5 then (by rw [hc, eσ30, zq_up_same]; unfold zr_d; have h := hi5_0; unfold zq_hid at h; rw [← h, ← pr15.2.2]; omega) else (by rw [eσ30, zq_up_ne (by omega)]; exact hi5_1 x h0x (by omega))) (by omega) (by omega)
  refine zr_sub (pc := 5) hV [some (ZR 0), none, some (ZI names), some (ZI number), some (ZI 0), none] (⟨rfl, rfl, rfl, rfl, trivial⟩) ?_
  exact L5 (9 - (0 : Int) + 1 : Int).toNat number 0 σ (by omega) (by omega) hσ (fun a i _ => rfl) rfl (fun x h0x h1x => absurd h1x (by omega)) (by omega) (by omega)
set_option maxHeartbeats 800000 in
theorem c_X12_storeBit2 {σ : zq_S} (store : Int) (q0 : 0 ≤ store ∧ store ≤ 8) : zq_C zx_w yX12_storeBit cX12_storeBit 1 (some .int) 0 0 41 41 [ZI store] σ (zq_pp σ (fun r => 1 ≤ r ∧ r ≤ 256 ∧ r = zn_bit store)) := by
  refine zq_C_of (by decide) (Nat.le_refl _) (Nat.le_of_ble_eq_true rfl) [some (ZI store)] rfl (fun V hV => ?_)
  have zs := zx_shl_one (y := store) 8 256 (by decide) (by decide) (by omega)
  have zp := zx_p2_pos store
  show V 0 [some (ZI store)] [] 41 σ
  refine zr_iload_n (pc := 0) hV dX12_storeBit_0 rfl rfl ?_
  refine zr_iconst (pc := 1) hV 5 dX12_storeBit_1 rfl ?_
  refine zr_icmp_ge (pc := 2) hV 11 dX12_storeBit_2 (by decide) (by omega) ⟨by decide, by decide⟩ (fun c1 => ?_) (fun c1 => ?_)
  · show V 11 [some (ZI store)] [] 41 σ
    refine zr_bipush (pc := 11) hV 32 dX12_storeBit_11 (by decide) ?_
    show V 13 [some (ZI store)] [ZI 32] 41 σ
    exact zr_iret (pc := 13) hV dX12_storeBit_13 rfl rfl ⟨rfl, _, rfl, ⟨by decide, by decide⟩, ⟨by omega, by omega, by unfold zn_bit; rw [if_neg (by omega)]⟩⟩
  · show V 5 [some (ZI store)] [] 41 σ
    refine zr_iconst (pc := 5) hV 1 dX12_storeBit_5 rfl ?_
    refine zr_iload_n (pc := 6) hV dX12_storeBit_6 rfl rfl ?_
    refine zr_ishl (pc := 7) hV dX12_storeBit_7 ?_
    have t2 := zx_shl_one (y := store) 4 16 (by decide) (by decide) (by omega)
    refine zr_goto (pc := 8) hV 13 dX12_storeBit_8 (by decide) ?_
    show V 13 [some (ZI store)] [ZI (zq_shl 1 store)] 41 σ
    exact zr_iret (pc := 13) hV dX12_storeBit_13 rfl rfl ⟨rfl, _, rfl, (by omega), ⟨by omega, by omega, by unfold zn_bit; rw [if_pos (by omega)]; exact zs.1⟩⟩
