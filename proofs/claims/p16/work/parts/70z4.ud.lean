set_option maxHeartbeats 800000 in
theorem c_X12_hasRoom2 {σ : zq_S} (hσ : zx_T σ) (o node : Int) (q0 : 0 ≤ o ∧ o ≤ 20) (q1 : 0 ≤ node ∧ node ≤ 39) : zq_C zx_w yX12_hasRoom cX12_hasRoom 3 (some .boolean) 1 24 41 41 [ZR 0, ZI o, ZI node] σ (zq_pp σ (fun r => (r = 0 ∨ r = 1) ∧ (r = 1 ↔ zp_rm σ o node = true))) := by
  refine zq_C_of (by decide) (Nat.le_refl _) (Nat.le_of_ble_eq_true rfl) [some (ZR 0), some (ZI o), some (ZI node)] rfl (fun V hV => ?_)
  show V 0 [some (ZR 0), some (ZI o), some (ZI node)] [] 41 σ
  refine zr_aload_n (pc := 0) hV dX12_hasRoom_0 rfl rfl ?_
  refine zr_getR (pc := 1) hV 38 21 dX12_hasRoom_1 fX12_87 rfl rfl rfl (by decide) (zx_g38 hσ) (by omega) ?_
  refine zr_iload_n (pc := 4) hV dX12_hasRoom_4 rfl rfl ?_
  refine zr_iald (pc := 5) hV dX12_hasRoom_5 rfl (by decide) rfl (by omega) ?_
  have t1 := zx_ga21 hσ node
  refine zr_iconst (pc := 6) hV 1 dX12_hasRoom_6 rfl ?_
  refine zr_icmp_ne (pc := 7) hV 30 dX12_hasRoom_7 (by decide) (by omega) ⟨by decide, by decide⟩ (fun c2 => ?_) (fun c2 => ?_)
  · show V 30 [some (ZR 0), some (ZI o), some (ZI node)] [] 41 σ
    refine zr_iconst (pc := 30) hV 0 dX12_hasRoom_30 rfl ?_
    show V 31 [some (ZR 0), some (ZI o), some (ZI node)] [ZI 0] 41 σ
    exact zr_zret (pc := 31) hV dX12_hasRoom_31 rfl rfl (by omega) ⟨rfl, _, rfl, ⟨by decide, by decide⟩, ⟨Or.inl rfl, fun h => absurd h (by omega), fun h => by first | exact absurd (of_decide_eq_true h).1 (by omega) | (have q := (of_decide_eq_true h).2; rw [← pr19.2.2] at q; omega)⟩⟩
  · show V 10 [some (ZR 0), some (ZI o), some (ZI node)] [] 41 σ
    refine zr_aload_n (pc := 10) hV dX12_hasRoom_10 rfl rfl ?_
    refine zr_getR (pc := 11) hV 39 22 dX12_hasRoom_11 fX12_90 rfl rfl rfl (by decide) (zx_g39 hσ) (by omega) ?_
    refine zr_iload_n (pc := 14) hV dX12_hasRoom_14 rfl rfl ?_
    refine zr_iald (pc := 15) hV dX12_hasRoom_15 rfl (by decide) rfl (by omega) ?_
    have t3 := zx_ga22 hσ node
    refine zr_aload_n (pc := 16) hV dX12_hasRoom_16 rfl rfl ?_
    refine zr_iload_n (pc := 17) hV dX12_hasRoom_17 rfl rfl ?_
    refine zr_iconst (pc := 18) hV 3 dX12_hasRoom_18 rfl ?_
    refine zr_callVp (pc := 19) hV [ZI o, ZI 3] (st := [ZI (σ 22 node)]) (c_X12_fieldBits (σ := σ) hσ o 3 (by omega) (by omega)) dX12_hasRoom_19 mX12_184 rfl (by decide) (by decide) (Nat.le_of_ble_eq_true rfl) (Nat.le_refl _) (fun r19 hr19 pr19 => ?_)
    have t4 := zx_g2 hσ
    refine zr_ishr (pc := 22) hV dX12_hasRoom_22 ?_
    have t5 := zq_shr_nn (x := σ 22 node) (y := r19) (by omega)
    refine zr_if_ne (pc := 23) hV 30 dX12_hasRoom_23 (by decide) (by omega) (fun c6 => ?_) (fun c6 => ?_)
    · show V 30 [some (ZR 0), some (ZI o), some (ZI node)] [] 41 σ
      refine zr_iconst (pc := 30) hV 0 dX12_hasRoom_30 rfl ?_
      show V 31 [some (ZR 0), some (ZI o), some (ZI node)] [ZI 0] 41 σ
      exact zr_zret (pc := 31) hV dX12_hasRoom_31 rfl rfl (by omega) ⟨rfl, _, rfl, ⟨by decide, by decide⟩, ⟨Or.inl rfl, fun h => absurd h (by omega), fun h => by first | exact absurd (of_decide_eq_true h).1 (by omega) | (have q := (of_decide_eq_true h).2; rw [← pr19.2.2] at q; omega)⟩⟩
    · show V 26 [some (ZR 0), some (ZI o), some (ZI node)] [] 41 σ
      refine zr_iconst (pc := 26) hV 1 dX12_hasRoom_26 rfl ?_
      refine zr_goto (pc := 27) hV 31 dX12_hasRoom_27 (by decide) ?_
      show V 31 [some (ZR 0), some (ZI o), some (ZI node)] [ZI 1] 41 σ
      exact zr_zret (pc := 31) hV dX12_hasRoom_31 rfl rfl (by omega) ⟨rfl, _, rfl, ⟨by decide, by decide⟩, ⟨Or.inr rfl, fun _ => decide_eq_true ⟨by omega, by rw [← pr19.2.2]; omega⟩, fun _ => rfl⟩⟩
set_option maxHeartbeats 800000 in
theorem c_X12_costBy2 {σ : zq_S} (hσ : zx_T σ) (o node move : Int) (q0 : 0 ≤ o ∧ o ≤ 19) (q1 : 0 ≤ node ∧ node ≤ 39) (q2 : -1 ≤ move ∧ move ≤ 19) (q3 : ∀ j, 0 ≤ j → j < node → -1 ≤ σ 31 j ∧ σ 31 j ≤ 80000) (q4 : σ 21 node = 2 → 0 ≤ σ 23 node ∧ σ 23 node < node ∧ 0 ≤ σ 24 node ∧ σ 24 node < node) (q5 : 1 ≤ σ 21 node) : zq_C zx_w yX12_costBy cX12_costBy 9 (some .int) 4 94 41 41 [ZR 0, ZI o, ZI node, ZI move] σ (zq_pp σ (fun r => True ∧ zq_hid (0 ≤ r → (σ 21 node = 1 → zx_form σ o = 1) ∧ (¬ σ 21 node = 1 → 3 ≤ zx_form σ o ∧ 0 ≤ σ 31 (σ 23 node) ∧ (zx_form σ o = 3 ∨ zx_form σ o = 5 → 0 ≤ σ 31 (σ 24 node)) ∧ (5 ≤ zx_form σ o → σ 21 (σ 23 node) = 0 → 0 ≤ move))) ∧ zq_hid (r = zp_c σ (σ 31) move o node))) := by
  refine zq_C_of (by decide) (Nat.le_refl _) (Nat.le_of_ble_eq_true rfl) [some (ZR 0), some (ZI o), some (ZI node), some (ZI move), none, none, none, none, none] rfl (fun V hV => ?_)
  show V 0 [some (ZR 0), some (ZI o), some (ZI node), some (ZI move), none, none, none, none, none] [] 41 σ
  refine zr_aload_n (pc := 0) hV dX12_costBy_0 rfl rfl ?_
  refine zr_iload_n (pc := 1) hV dX12_costBy_1 rfl rfl ?_
  refine zr_callVp (pc := 2) hV [ZI o] (st := []) (c_X12_formOf (σ := σ) hσ o (by omega)) dX12_costBy_2 mX12_428 rfl (by decide) (by decide) (Nat.le_of_ble_eq_true rfl) (Nat.le_refl _) (fun r2 hr2 pr2 => ?_)
  refine zr_istore (pc := 5) hV [some (ZR 0), some (ZI o), some (ZI node), some (ZI move), some (ZI r2), none, none, none, none] dX12_costBy_5 (by decide) rfl rfl ?_
  refine zr_aload_n (pc := 7) hV dX12_costBy_7 rfl rfl ?_
  refine zr_getR (pc := 8) hV 38 21 dX12_costBy_8 fX12_87 rfl rfl rfl (by decide) (zx_g38 hσ) (by omega) ?_
  refine zr_iload_n (pc := 11) hV dX12_costBy_11 rfl rfl ?_
  refine zr_iald (pc := 12) hV dX12_costBy_12 rfl (by decide) rfl (by omega) ?_
  have t1 := zx_ga21 hσ node
  refine zr_iconst (pc := 13) hV 1 dX12_costBy_13 rfl ?_
  refine zr_icmp_ne (pc := 14) hV 43 dX12_costBy_14 (by decide) (by omega) ⟨by decide, by decide⟩ (fun c2 => ?_) (fun c2 => ?_)
  · show V 43 [some (ZR 0), some (ZI o), some (ZI node), some (ZI move), some (ZI r2), none, none, none, none] [] 41 σ
    refine zr_iload (pc := 43) hV dX12_costBy_43 rfl ?_
    refine zr_iconst (pc := 45) hV 3 dX12_costBy_45 rfl ?_
    refine zr_icmp_lt (pc := 46) hV 69 dX12_costBy_46 (by decide) (by omega) ⟨by decide, by decide⟩ (fun c3 => ?_) (fun c3 => ?_)
    · show V 69 [some (ZR 0), some (ZI o), some (ZI node), some (ZI move), some (ZI r2), none, none, none, none] [] 41 σ
      refine zr_iconst (pc := 69) hV (-1) dX12_costBy_69 rfl ?_
      exact zr_iret (pc := 70) hV dX12_costBy_70 rfl rfl ⟨rfl, _, rfl, ⟨by decide, by decide⟩, ⟨trivial, (by unfold zq_hid; exact fun h => absurd h (by decide)), (by first | exact (zp_c_1n (by omega) (fun q => absurd q.1 (by omega))).symm | exact (zp_c_1n (by omega) (fun q => absurd (pr26.2.mpr q.2) (by omega))).symm | exact (zp_c_s (by omega) (by omega)).symm | exact (zp_c_l (by omega) ⟨by omega, by omega⟩ (by omega)).symm | (have u1 : (v0_105 = 1 ∧ (r2 = 4 ∨ r2 = 6)) ∨ (v0_105 = 0 ∧ r2 ≠ 4 ∧ r2 ≠ 6) := hi105_0; have u2 : (v0_128 = 1 ∧ 5 ≤ r2 ∧ σ 21 (σ 23 node) = 0) ∨ (v0_128 = 0 ∧ (r2 < 5 ∨ σ 21 (σ 23 node) ≠ 0)) := hi128_0; exact (zp_c_r (by omega) ⟨by omega, by omega⟩ (by omega) (Or.inl ⟨(show zp_lit σ o = true from decide_eq_true (show zx_form σ o = 4 ∨ zx_form σ o = 6 by omega)), fun q => absurd (pr149.2.mpr q) (by omega)⟩)).symm) | (have u1 : (v0_105 = 1 ∧ (r2 = 4 ∨ r2 = 6)) ∨ (v0_105 = 0 ∧ r2 ≠ 4 ∧ r2 ≠ 6) := hi105_0; have u2 : (v0_128 = 1 ∧ 5 ≤ r2 ∧ σ 21 (σ 23 node) = 0) ∨ (v0_128 = 0 ∧ (r2 < 5 ∨ σ 21 (σ 23 node) ≠ 0)) := hi128_0; exact (zp_c_r (by omega) ⟨by omega, by omega⟩ (by omega) (Or.inr ⟨(show ¬ zp_lit σ o = true from fun q => absurd (of_decide_eq_true q) (show ¬ (zx_form σ o = 4 ∨ zx_form σ o = 6) by omega)), by omega⟩)).symm) | (have u1 : (v0_105 = 1 ∧ (r2 = 4 ∨ r2 = 6)) ∨ (v0_105 = 0 ∧ r2 ≠ 4 ∧ r2 ≠ 6) := hi105_0; have u2 : (v0_128 = 1 ∧ 5 ≤ r2 ∧ σ 21 (σ 23 node) = 0) ∨ (v0_128 = 0 ∧ (r2 < 5 ∨ σ 21 (σ 23 node) ≠ 0)) := hi128_0; have h168 : (0 ≠ 0 ∧ zp_rm σ o (σ 24 node) = true) ∨ (0 = 0 ∧ 0 ≤ σ 31 (σ 24 node)) := hi168_1; exact (zp_c_m (by omega) ⟨by omega, by omega⟩ (by omega) (fun q => q.elim (fun q1 => by rcases h168 with ⟨a, b⟩ | ⟨a, b⟩; exact q1.2 b; exact absurd q1.1 (show ¬ zp_lit σ o = true from fun q => absurd (of_decide_eq_true q) (show ¬ (zx_form σ o = 4 ∨ zx_form σ o = 6) by omega))) (fun q1 => by rcases h168 with ⟨a, b⟩ | ⟨a, b⟩; exact q1.1 (show zp_lit σ o = true from decide_eq_true (show zx_form σ o = 4 ∨ zx_form σ o = 6 by omega)); exact absurd q1.2 (by omega))) ⟨(show zp_ipv σ o node = true from decide_eq_true (show 5 ≤ zx_form σ o ∧ σ 21 (σ 23 node) = 0 by omega)), by omega⟩).symm))⟩⟩
    · show V 49 [some (ZR 0), some (ZI o), some (ZI node), some (ZI move), some (ZI r2), none, none, none, none] [] 41 σ
      refine zr_aload_n (pc := 49) hV dX12_costBy_49 rfl rfl ?_
      refine zr_getR (pc := 50) hV 9 6 dX12_costBy_50 fX12_35 rfl rfl rfl (by decide) (zx_g9 hσ) (by omega) ?_
      refine zr_bipush (pc := 53) hV 18 dX12_costBy_53 (by decide) ?_
      refine zr_iload_n (pc := 55) hV dX12_costBy_55 rfl rfl ?_
      refine zr_imul (pc := 56) hV dX12_costBy_56 ?_
      refine zr_iconst (pc := 57) hV 3 dX12_costBy_57 rfl ?_
      refine zr_iadd (pc := 58) hV dX12_costBy_58 ?_
      refine zr_iald (pc := 59) hV dX12_costBy_59 rfl (by decide) rfl (by omega) ?_
      have t4 := zx_ac3 hσ ((18 * o) + 3) (by omega)
      refine zr_aload_n (pc := 60) hV dX12_costBy_60 rfl rfl ?_
      refine zr_getR (pc := 61) hV 39 22 dX12_costBy_61 fX12_90 rfl rfl rfl (by decide) (zx_g39 hσ) (by omega) ?_
      refine zr_iload_n (pc := 64) hV dX12_costBy_64 rfl rfl ?_
      refine zr_iald (pc := 65) hV dX12_costBy_65 rfl (by decide) rfl (by omega) ?_
      have t5 := zx_ga22 hσ node
      refine zr_icmp_eq (pc := 66) hV 71 dX12_costBy_66 (by decide) (by omega) (by omega) (fun c6 => ?_) (fun c6 => ?_)
      · show V 71 [some (ZR 0), some (ZI o), some (ZI node), some (ZI move), some (ZI r2), none, none, none, none] [] 41 σ
        have zk := zx_ga21 hσ node
        have zl := q4 (by omega)
        have zpl := q3 (σ 23 node) (by omega) (by omega)
        have zpr := q3 (σ 24 node) (by omega) (by omega)
        have z7o := zx_ga7 hσ o
        refine zr_aload_n (pc := 71) hV dX12_costBy_71 rfl rfl ?_
        refine zr_getR (pc := 72) hV 40 23 dX12_costBy_72 fX12_93 rfl rfl rfl (by decide) (zx_g40 hσ) (by omega) ?_
        refine zr_iload_n (pc := 75) hV dX12_costBy_75 rfl rfl ?_
        refine zr_iald (pc := 76) hV dX12_costBy_76 rfl (by decide) rfl (by omega) ?_
        have t7 := zx_ga23 hσ node
        refine zr_istore (pc := 77) hV [some (ZR 0), some (ZI o), some (ZI node), some (ZI move), some (ZI r2), some (ZI (σ 23 node)), none, none, none] dX12_costBy_77 (by decide) rfl rfl ?_
        refine zr_aload_n (pc := 79) hV dX12_costBy_79 rfl rfl ?_
        refine zr_getR (pc := 80) hV 41 24 dX12_costBy_80 fX12_96 rfl rfl rfl (by decide) (zx_g41 hσ) (by omega) ?_
        refine zr_iload_n (pc := 83) hV dX12_costBy_83 rfl rfl ?_
        refine zr_iald (pc := 84) hV dX12_costBy_84 rfl (by decide) rfl (by omega) ?_
        have t8 := zx_ga24 hσ node
        refine zr_istore (pc := 85) hV [some (ZR 0), some (ZI o), some (ZI node), some (ZI move), some (ZI r2), some (ZI (σ 23 node)), some (ZI (σ 24 node)), none, none] dX12_costBy_85 (by decide) rfl rfl ?_
        refine zr_iload (pc := 87) hV dX12_costBy_87 rfl ?_
        refine zr_iconst (pc := 89) hV 4 dX12_costBy_89 rfl ?_
        have J105 : ∀ (v0_105 : Int), (0 ≤ v0_105 ∧ v0_105 ≤ 1) → (zq_hid ((v0_105 = 1 ∧ (r2 = 4 ∨ r2 = 6)) ∨ (v0_105 = 0 ∧ r2 ≠ 4 ∧ r2 ≠ 6))) → V 105 [some (ZR 0), some (ZI o), none, some (ZI move), some (ZI r2), some (ZI (σ 23 node)), some (ZI (σ 24 node)), none, none] [ZI v0_105] 41 σ := by
          intro v0_105 hv0_105 hi105_0
          show V 105 [some (ZR 0), some (ZI o), none, some (ZI move), some (ZI r2), some (ZI (σ 23 node)), some (ZI (σ 24 node)), none, none] [ZI v0_105] 41 σ
          refine zr_istore (pc := 105) hV [some (ZR 0), some (ZI o), none, some (ZI move), some (ZI r2), some (ZI (σ 23 node)), some (ZI (σ 24 node)), some (ZI v0_105), none] dX12_costBy_105 (by decide) rfl rfl ?_
          refine zr_iload (pc := 107) hV dX12_costBy_107 rfl ?_
          refine zr_iconst (pc := 109) hV 5 dX12_costBy_109 rfl ?_
          have J128 : ∀ (v0_128 : Int), (0 ≤ v0_128 ∧ v0_128 ≤ 1) → (zq_hid ((v0_128 = 1 ∧ 5 ≤ r2 ∧ σ 21 (σ 23 node) = 0) ∨ (v0_128 = 0 ∧ (r2 < 5 ∨ σ 21 (σ 23 node) ≠ 0)))) → V 128 [some (ZR 0), some (ZI o), none, some (ZI move), none, some (ZI (σ 23 node)), some (ZI (σ 24 node)), some (ZI v0_105), none] [ZI v0_128] 41 σ := by
            intro v0_128 hv0_128 hi128_0
            show V 128 [some (ZR 0), some (ZI o), none, some (ZI move), none, some (ZI (σ 23 node)), some (ZI (σ 24 node)), some (ZI v0_105), none] [ZI v0_128] 41 σ
            refine zr_istore (pc := 128) hV [some (ZR 0), some (ZI o), none, some (ZI move), none, some (ZI (σ 23 node)), some (ZI (σ 24 node)), some (ZI v0_105), some (ZI v0_128)] dX12_costBy_128 (by decide) rfl rfl ?_
            refine zr_aload_n (pc := 130) hV dX12_costBy_130 rfl rfl ?_
            refine zr_getR (pc := 131) hV 51 31 dX12_costBy_131 fX12_117 rfl rfl rfl (by decide) (zx_g51 hσ) (by omega) ?_
            refine zr_iload (pc := 134) hV dX12_costBy_134 rfl ?_
            refine zr_iald (pc := 136) hV dX12_costBy_136 rfl (by decide) rfl (by omega) ?_
            have t9 := zx_ga31 hσ (σ 23 node)
            refine zr_if_lt (pc := 137) hV 177 dX12_costBy_137 (by decide) (by omega) (fun c10 => ?_) (fun c10 => ?_)
            · show V 177 [some (ZR 0), some (ZI o), none, some (ZI move), none, some (ZI (σ 23 node)), some (ZI (σ 24 node)), some (ZI v0_105), some (ZI v0_128)] [] 41 σ
              refine zr_iconst (pc := 177) hV (-1) dX12_costBy_177 rfl ?_
              exact zr_iret (pc := 178) hV dX12_costBy_178 rfl rfl ⟨rfl, _, rfl, ⟨by decide, by decide⟩, ⟨trivial, (by unfold zq_hid; exact fun h => absurd h (by decide)), (by first | exact (zp_c_1n (by omega) (fun q => absurd q.1 (by omega))).symm | exact (zp_c_1n (by omega) (fun q => absurd (pr26.2.mpr q.2) (by omega))).symm | exact (zp_c_s (by omega) (by omega)).symm | exact (zp_c_l (by omega) ⟨by omega, by omega⟩ (by omega)).symm | (have u1 : (v0_105 = 1 ∧ (r2 = 4 ∨ r2 = 6)) ∨ (v0_105 = 0 ∧ r2 ≠ 4 ∧ r2 ≠ 6) := hi105_0; have u2 : (v0_128 = 1 ∧ 5 ≤ r2 ∧ σ 21 (σ 23 node) = 0) ∨ (v0_128 = 0 ∧ (r2 < 5 ∨ σ 21 (σ 23 node) ≠ 0)) := hi128_0; exact (zp_c_r (by omega) ⟨by omega, by omega⟩ (by omega) (Or.inl ⟨(show zp_lit σ o = true from decide_eq_true (show zx_form σ o = 4 ∨ zx_form σ o = 6 by omega)), fun q => absurd (pr149.2.mpr q) (by omega)⟩)).symm) | (have u1 : (v0_105 = 1 ∧ (r2 = 4 ∨ r2 = 6)) ∨ (v0_105 = 0 ∧ r2 ≠ 4 ∧ r2 ≠ 6) := hi105_0; have u2 : (v0_128 = 1 ∧ 5 ≤ r2 ∧ σ 21 (σ 23 node) = 0) ∨ (v0_128 = 0 ∧ (r2 < 5 ∨ σ 21 (σ 23 node) ≠ 0)) := hi128_0; exact (zp_c_r (by omega) ⟨by omega, by omega⟩ (by omega) (Or.inr ⟨(show ¬ zp_lit σ o = true from fun q => absurd (of_decide_eq_true q) (show ¬ (zx_form σ o = 4 ∨ zx_form σ o = 6) by omega)), by omega⟩)).symm) | (have u1 : (v0_105 = 1 ∧ (r2 = 4 ∨ r2 = 6)) ∨ (v0_105 = 0 ∧ r2 ≠ 4 ∧ r2 ≠ 6) := hi105_0; have u2 : (v0_128 = 1 ∧ 5 ≤ r2 ∧ σ 21 (σ 23 node) = 0) ∨ (v0_128 = 0 ∧ (r2 < 5 ∨ σ 21 (σ 23 node) ≠ 0)) := hi128_0; have h168 : (v0_105 ≠ 0 ∧ zp_rm σ o (σ 24 node) = true) ∨ (v0_105 = 0 ∧ 0 ≤ σ 31 (σ 24 node)) := hi168_1; exact (zp_c_m (by omega) ⟨by omega, by omega⟩ (by omega) (fun q => q.elim (fun q1 => by rcases h168 with ⟨a, b⟩ | ⟨a, b⟩; exact q1.2 b; exact absurd q1.1 (show ¬ zp_lit σ o = true from fun q => absurd (of_decide_eq_true q) (show ¬ (zx_form σ o = 4 ∨ zx_form σ o = 6) by omega))) (fun q1 => by rcases h168 with ⟨a, b⟩ | ⟨a, b⟩; exact q1.1 (show zp_lit σ o = true from decide_eq_true (show zx_form σ o = 4 ∨ zx_form σ o = 6 by omega)); exact absurd q1.2 (by omega))) ⟨(show zp_ipv σ o node = true from decide_eq_true (show 5 ≤ zx_form σ o ∧ σ 21 (σ 23 node) = 0 by omega)), by omega⟩).symm))⟩⟩
            · show V 140 [some (ZR 0), some (ZI o), none, some (ZI move), none, some (ZI (σ 23 node)), some (ZI (σ 24 node)), some (ZI v0_105), some (ZI v0_128)] [] 41 σ
              refine zr_iload (pc := 140) hV dX12_costBy_140 rfl ?_
              have J168 : (v0_105 = 0 → 0 ≤ σ 31 (σ 24 node)) → (zq_hid ((v0_105 ≠ 0 ∧ zp_rm σ o (σ 24 node) = true) ∨ (v0_105 = 0 ∧ 0 ≤ σ 31 (σ 24 node)))) → V 168 [some (ZR 0), some (ZI o), none, some (ZI move), none, some (ZI (σ 23 node)), some (ZI (σ 24 node)), some (ZI v0_105), some (ZI v0_128)] [] 41 σ := by
                intro hi168_0 hi168_1
                show V 168 [some (ZR 0), some (ZI o), none, some (ZI move), none, some (ZI (σ 23 node)), some (ZI (σ 24 node)), some (ZI v0_105), some (ZI v0_128)] [] 41 σ
                refine zr_iload (pc := 168) hV dX12_costBy_168 rfl ?_
                have J179 : (1 ≤ v0_128 → 0 ≤ move) → V 179 [some (ZR 0), some (ZI o), none, some (ZI move), none, some (ZI (σ 23 node)), some (ZI (σ 24 node)), some (ZI v0_105), some (ZI v0_128)] [] 41 σ := by
                  intro hi179_0
                  show V 179 [some (ZR 0), some (ZI o), none, some (ZI move), none, some (ZI (σ 23 node)), some (ZI (σ 24 node)), some (ZI v0_105), some (ZI v0_128)] [] 41 σ
                  have z7m := zx_ga7 hσ move
                  refine zr_aload_n (pc := 179) hV dX12_costBy_179 rfl rfl ?_
                  refine zr_getR (pc := 180) hV 51 31 dX12_costBy_180 fX12_117 rfl rfl rfl (by decide) (zx_g51 hσ) (by omega) ?_
                  refine zr_iload (pc := 183) hV dX12_costBy_183 rfl ?_
                  refine zr_iald (pc := 185) hV dX12_costBy_185 rfl (by decide) rfl (by omega) ?_
                  have t11 := zx_ga31 hσ (σ 23 node)
                  refine zr_iload (pc := 186) hV dX12_costBy_186 rfl ?_
                  refine zr_if_eq (pc := 188) hV 195 dX12_costBy_188 (by decide) (by omega) (fun c12 => ?_) (fun c12 => ?_)
                  · show V 195 [some (ZR 0), some (ZI o), none, some (ZI move), none, some (ZI (σ 23 node)), some (ZI (σ 24 node)), some (ZI v0_105), some (ZI v0_128)] [ZI (σ 31 (σ 23 node))] 41 σ
                    refine zr_aload_n (pc := 195) hV dX12_costBy_195 rfl rfl ?_
                    refine zr_getR (pc := 196) hV 51 31 dX12_costBy_196 fX12_117 rfl rfl rfl (by decide) (zx_g51 hσ) (by omega) ?_
                    refine zr_iload (pc := 199) hV dX12_costBy_199 rfl ?_
                    refine zr_iald (pc := 201) hV dX12_costBy_201 rfl (by decide) rfl (by omega) ?_
                    have t13 := zx_ga31 hσ (σ 24 node)
                    show V 202 [some (ZR 0), some (ZI o), none, some (ZI move), none, some (ZI (σ 23 node)), some (ZI (σ 24 node)), some (ZI v0_105), some (ZI v0_128)] [ZI (σ 31 (σ 24 node)), ZI (σ 31 (σ 23 node))] 41 σ
                    refine zr_iadd (pc := 202) hV dX12_costBy_202 ?_
                    refine zr_aload_n (pc := 203) hV dX12_costBy_203 rfl rfl ?_
                    refine zr_getR (pc := 204) hV 10 7 dX12_costBy_204 fX12_38 rfl rfl rfl (by decide) (zx_g10 hσ) (by omega) ?_
                    refine zr_iload_n (pc := 207) hV dX12_costBy_207 rfl rfl ?_
                    refine zr_iald (pc := 208) hV dX12_costBy_208 rfl (by decide) rfl (by omega) ?_
                    have t14 := zx_ga7 hσ o
                    refine zr_iadd (pc := 209) hV dX12_costBy_209 ?_
                    refine zr_iload (pc := 210) hV dX12_costBy_210 rfl ?_
                    refine zr_if_eq (pc := 212) hV 224 dX12_costBy_212 (by decide) (by omega) (fun c15 => ?_) (fun c15 => ?_)
                    · show V 224 [some (ZR 0), some (ZI o), none, some (ZI move), none, some (ZI (σ 23 node)), some (ZI (σ 24 node)), some (ZI v0_105), some (ZI v0_128)] [ZI (((σ 31 (σ 23 node)) + (σ 31 (σ 24 node))) + (σ 7 o))] 41 σ
                      refine zr_iconst (pc := 224) hV 0 dX12_costBy_224 rfl ?_
                      show V 225 [some (ZR 0), some (ZI o), none, some (ZI move), none, some (ZI (σ 23 node)), some (ZI (σ 24 node)), some (ZI v0_105), some (ZI v0_128)] [ZI 0, ZI (((σ 31 (σ 23 node)) + (σ 31 (σ 24 node))) + (σ 7 o))] 41 σ
                      refine zr_iadd (pc := 225) hV dX12_costBy_225 ?_
                      exact zr_iret (pc := 226) hV dX12_costBy_226 rfl rfl ⟨rfl, _, rfl, (by omega), ⟨trivial, (by unfold zq_hid; have u1 : (v0_105 = 1 ∧ (r2 = 4 ∨ r2 = 6)) ∨ (v0_105 = 0 ∧ r2 ≠ 4 ∧ r2 ≠ 6) := hi105_0; have u2 : (v0_128 = 1 ∧ 5 ≤ r2 ∧ σ 21 (σ 23 node) = 0) ∨ (v0_128 = 0 ∧ (r2 < 5 ∨ σ 21 (σ 23 node) ≠ 0)) := hi128_0; exact fun _ => ⟨fun h => absurd h (by omega), fun _ => ⟨by omega, by omega, fun h => by omega, fun h1 h2 => by omega⟩⟩), (by unfold zq_hid; have u1 : (v0_105 = 1 ∧ (r2 = 4 ∨ r2 = 6)) ∨ (v0_105 = 0 ∧ r2 ≠ 4 ∧ r2 ≠ 6) := hi105_0; have u2 : (v0_128 = 1 ∧ 5 ≤ r2 ∧ σ 21 (σ 23 node) = 0) ∨ (v0_128 = 0 ∧ (r2 < 5 ∨ σ 21 (σ 23 node) ≠ 0)) := hi128_0; have h168 : (v0_105 ≠ 0 ∧ zp_rm σ o (σ 24 node) = true) ∨ (v0_105 = 0 ∧ 0 ≤ σ 31 (σ 24 node)) := hi168_1; rw [zp_c_y (by omega) ⟨by omega, by omega⟩ (by omega) (fun q => q.elim (fun q1 => by rcases h168 with ⟨a, b⟩ | ⟨a, b⟩; exact q1.2 b; exact absurd q1.1 (show ¬ zp_lit σ o = true from fun q => absurd (of_decide_eq_true q) (show ¬ (zx_form σ o = 4 ∨ zx_form σ o = 6) by omega))) (fun q1 => by rcases h168 with ⟨a, b⟩ | ⟨a, b⟩; exact q1.1 (show zp_lit σ o = true from decide_eq_true (show zx_form σ o = 4 ∨ zx_form σ o = 6 by omega)); exact absurd q1.2 (by omega))) (fun q => absurd q.1 (show ¬ zp_ipv σ o node = true from fun q => absurd (of_decide_eq_true q) (show ¬ (5 ≤ zx_form σ o ∧ σ 21 (σ 23 node) = 0) by omega))), if_neg (show ¬ zp_lit σ o = true from fun q => absurd (of_decide_eq_true q) (show ¬ (zx_form σ o = 4 ∨ zx_form σ o = 6) by omega)), if_neg (show ¬ zp_ipv σ o node = true from fun q => absurd (of_decide_eq_true q) (show ¬ (5 ≤ zx_form σ o ∧ σ 21 (σ 23 node) = 0) by omega))]; try omega)⟩⟩
                    · show V 215 [some (ZR 0), some (ZI o), none, some (ZI move), none, some (ZI (σ 23 node)), some (ZI (σ 24 node)), some (ZI v0_105), some (ZI v0_128)] [ZI (((σ 31 (σ 23 node)) + (σ 31 (σ 24 node))) + (σ 7 o))] 41 σ
                      refine zr_aload_n (pc := 215) hV dX12_costBy_215 rfl rfl ?_
                      refine zr_getR (pc := 216) hV 10 7 dX12_costBy_216 fX12_38 rfl rfl rfl (by decide) (zx_g10 hσ) (by omega) ?_
                      refine zr_iload_n (pc := 219) hV dX12_costBy_219 rfl rfl ?_
                      refine zr_iald (pc := 220) hV dX12_costBy_220 rfl (by decide) rfl (by omega) ?_
                      have t16 := zx_ga7 hσ move
                      refine zr_goto (pc := 221) hV 225 dX12_costBy_221 (by decide) ?_
                      show V 225 [some (ZR 0), some (ZI o), none, some (ZI move), none, some (ZI (σ 23 node)), some (ZI (σ 24 node)), some (ZI v0_105), some (ZI v0_128)] [ZI (σ 7 move), ZI (((σ 31 (σ 23 node)) + (σ 31 (σ 24 node))) + (σ 7 o))] 41 σ
                      refine zr_iadd (pc := 225) hV dX12_costBy_225 ?_
                      exact zr_iret (pc := 226) hV dX12_costBy_226 rfl rfl ⟨rfl, _, rfl, (by omega), ⟨trivial, (by unfold zq_hid; have u1 : (v0_105 = 1 ∧ (r2 = 4 ∨ r2 = 6)) ∨ (v0_105 = 0 ∧ r2 ≠ 4 ∧ r2 ≠ 6) := hi105_0; have u2 : (v0_128 = 1 ∧ 5 ≤ r2 ∧ σ 21 (σ 23 node) = 0) ∨ (v0_128 = 0 ∧ (r2 < 5 ∨ σ 21 (σ 23 node) ≠ 0)) := hi128_0; exact fun _ => ⟨fun h => absurd h (by omega), fun _ => ⟨by omega, by omega, fun h => by omega, fun h1 h2 => by omega⟩⟩), (by unfold zq_hid; have u1 : (v0_105 = 1 ∧ (r2 = 4 ∨ r2 = 6)) ∨ (v0_105 = 0 ∧ r2 ≠ 4 ∧ r2 ≠ 6) := hi105_0; have u2 : (v0_128 = 1 ∧ 5 ≤ r2 ∧ σ 21 (σ 23 node) = 0) ∨ (v0_128 = 0 ∧ (r2 < 5 ∨ σ 21 (σ 23 node) ≠ 0)) := hi128_0; have h168 : (v0_105 ≠ 0 ∧ zp_rm σ o (σ 24 node) = true) ∨ (v0_105 = 0 ∧ 0 ≤ σ 31 (σ 24 node)) := hi168_1; rw [zp_c_y (by omega) ⟨by omega, by omega⟩ (by omega) (fun q => q.elim (fun q1 => by rcases h168 with ⟨a, b⟩ | ⟨a, b⟩; exact q1.2 b; exact absurd q1.1 (show ¬ zp_lit σ o = true from fun q => absurd (of_decide_eq_true q) (show ¬ (zx_form σ o = 4 ∨ zx_form σ o = 6) by omega))) (fun q1 => by rcases h168 with ⟨a, b⟩ | ⟨a, b⟩; exact q1.1 (show zp_lit σ o = true from decide_eq_true (show zx_form σ o = 4 ∨ zx_form σ o = 6 by omega)); exact absurd q1.2 (by omega))) (fun q => absurd q.2 (by omega)), if_neg (show ¬ zp_lit σ o = true from fun q => absurd (of_decide_eq_true q) (show ¬ (zx_form σ o = 4 ∨ zx_form σ o = 6) by omega)), if_pos (show zp_ipv σ o node = true from decide_eq_true (show 5 ≤ zx_form σ o ∧ σ 21 (σ 23 node) = 0 by omega))]; try omega)⟩⟩
                  · show V 191 [some (ZR 0), some (ZI o), none, some (ZI move), none, some (ZI (σ 23 node)), some (ZI (σ 24 node)), some (ZI v0_105), some (ZI v0_128)] [ZI (σ 31 (σ 23 node))] 41 σ
                    refine zr_iconst (pc := 191) hV 0 dX12_costBy_191 rfl ?_
                    refine zr_goto (pc := 192) hV 202 dX12_costBy_192 (by decide) ?_
                    show V 202 [some (ZR 0), some (ZI o), none, some (ZI move), none, some (ZI (σ 23 node)), some (ZI (σ 24 node)), some (ZI v0_105), some (ZI v0_128)] [ZI 0, ZI (σ 31 (σ 23 node))] 41 σ
                    refine zr_iadd (pc := 202) hV dX12_costBy_202 ?_
                    refine zr_aload_n (pc := 203) hV dX12_costBy_203 rfl rfl ?_
                    refine zr_getR (pc := 204) hV 10 7 dX12_costBy_204 fX12_38 rfl rfl rfl (by decide) (zx_g10 hσ) (by omega) ?_
                    refine zr_iload_n (pc := 207) hV dX12_costBy_207 rfl rfl ?_
                    refine zr_iald (pc := 208) hV dX12_costBy_208 rfl (by decide) rfl (by omega) ?_
                    have t17 := zx_ga7 hσ o
                    refine zr_iadd (pc := 209) hV dX12_costBy_209 ?_
                    refine zr_iload (pc := 210) hV dX12_costBy_210 rfl ?_
                    refine zr_if_eq (pc := 212) hV 224 dX12_costBy_212 (by decide) (by omega) (fun c18 => ?_) (fun c18 => ?_)
                    · show V 224 [some (ZR 0), some (ZI o), none, some (ZI move), none, some (ZI (σ 23 node)), some (ZI (σ 24 node)), some (ZI v0_105), some (ZI v0_128)] [ZI (((σ 31 (σ 23 node)) + 0) + (σ 7 o))] 41 σ
                      refine zr_iconst (pc := 224) hV 0 dX12_costBy_224 rfl ?_
                      show V 225 [some (ZR 0), some (ZI o), none, some (ZI move), none, some (ZI (σ 23 node)), some (ZI (σ 24 node)), some (ZI v0_105), some (ZI v0_128)] [ZI 0, ZI (((σ 31 (σ 23 node)) + 0) + (σ 7 o))] 41 σ
                      refine zr_iadd (pc := 225) hV dX12_costBy_225 ?_
                      exact zr_iret (pc := 226) hV dX12_costBy_226 rfl rfl ⟨rfl, _, rfl, (by omega), ⟨trivial, (by unfold zq_hid; have u1 : (v0_105 = 1 ∧ (r2 = 4 ∨ r2 = 6)) ∨ (v0_105 = 0 ∧ r2 ≠ 4 ∧ r2 ≠ 6) := hi105_0; have u2 : (v0_128 = 1 ∧ 5 ≤ r2 ∧ σ 21 (σ 23 node) = 0) ∨ (v0_128 = 0 ∧ (r2 < 5 ∨ σ 21 (σ 23 node) ≠ 0)) := hi128_0; exact fun _ => ⟨fun h => absurd h (by omega), fun _ => ⟨by omega, by omega, fun h => by omega, fun h1 h2 => by omega⟩⟩), (by unfold zq_hid; have u1 : (v0_105 = 1 ∧ (r2 = 4 ∨ r2 = 6)) ∨ (v0_105 = 0 ∧ r2 ≠ 4 ∧ r2 ≠ 6) := hi105_0; have u2 : (v0_128 = 1 ∧ 5 ≤ r2 ∧ σ 21 (σ 23 node) = 0) ∨ (v0_128 = 0 ∧ (r2 < 5 ∨ σ 21 (σ 23 node) ≠ 0)) := hi128_0; have h168 : (v0_105 ≠ 0 ∧ zp_rm σ o (σ 24 node) = true) ∨ (v0_105 = 0 ∧ 0 ≤ σ 31 (σ 24 node)) := hi168_1; rw [zp_c_y (by omega) ⟨by omega, by omega⟩ (by omega) (fun q => q.elim (fun q1 => by rcases h168 with ⟨a, b⟩ | ⟨a, b⟩; exact q1.2 b; exact absurd q1.1 (show ¬ zp_lit σ o = true from fun q => absurd (of_decide_eq_true q) (show ¬ (zx_form σ o = 4 ∨ zx_form σ o = 6) by omega))) (fun q1 => by rcases h168 with ⟨a, b⟩ | ⟨a, b⟩; exact q1.1 (show zp_lit σ o = true from decide_eq_true (show zx_form σ o = 4 ∨ zx_form σ o = 6 by omega)); exact absurd q1.2 (by omega))) (fun q => absurd q.1 (show ¬ zp_ipv σ o node = true from fun q => absurd (of_decide_eq_true q) (show ¬ (5 ≤ zx_form σ o ∧ σ 21 (σ 23 node) = 0) by omega))), if_pos (show zp_lit σ o = true from decide_eq_true (show zx_form σ o = 4 ∨ zx_form σ o = 6 by omega)), if_neg (show ¬ zp_ipv σ o node = true from fun q => absurd (of_decide_eq_true q) (show ¬ (5 ≤ zx_form σ o ∧ σ 21 (σ 23 node) = 0) by omega))]; try omega)⟩⟩
                    · show V 215 [some (ZR 0), some (ZI o), none, some (ZI move), none, some (ZI (σ 23 node)), some (ZI (σ 24 node)), some (ZI v0_105), some (ZI v0_128)] [ZI (((σ 31 (σ 23 node)) + 0) + (σ 7 o))] 41 σ
                      refine zr_aload_n (pc := 215) hV dX12_costBy_215 rfl rfl ?_
                      refine zr_getR (pc := 216) hV 10 7 dX12_costBy_216 fX12_38 rfl rfl rfl (by decide) (zx_g10 hσ) (by omega) ?_
                      refine zr_iload_n (pc := 219) hV dX12_costBy_219 rfl rfl ?_
                      refine zr_iald (pc := 220) hV dX12_costBy_220 rfl (by decide) rfl (by omega) ?_
                      have t19 := zx_ga7 hσ move
                      refine zr_goto (pc := 221) hV 225 dX12_costBy_221 (by decide) ?_
                      show V 225 [some (ZR 0), some (ZI o), none, some (ZI move), none, some (ZI (σ 23 node)), some (ZI (σ 24 node)), some (ZI v0_105), some (ZI v0_128)] [ZI (σ 7 move), ZI (((σ 31 (σ 23 node)) + 0) + (σ 7 o))] 41 σ
                      refine zr_iadd (pc := 225) hV dX12_costBy_225 ?_
                      exact zr_iret (pc := 226) hV dX12_costBy_226 rfl rfl ⟨rfl, _, rfl, (by omega), ⟨trivial, (by unfold zq_hid; have u1 : (v0_105 = 1 ∧ (r2 = 4 ∨ r2 = 6)) ∨ (v0_105 = 0 ∧ r2 ≠ 4 ∧ r2 ≠ 6) := hi105_0; have u2 : (v0_128 = 1 ∧ 5 ≤ r2 ∧ σ 21 (σ 23 node) = 0) ∨ (v0_128 = 0 ∧ (r2 < 5 ∨ σ 21 (σ 23 node) ≠ 0)) := hi128_0; exact fun _ => ⟨fun h => absurd h (by omega), fun _ => ⟨by omega, by omega, fun h => by omega, fun h1 h2 => by omega⟩⟩), (by unfold zq_hid; have u1 : (v0_105 = 1 ∧ (r2 = 4 ∨ r2 = 6)) ∨ (v0_105 = 0 ∧ r2 ≠ 4 ∧ r2 ≠ 6) := hi105_0; have u2 : (v0_128 = 1 ∧ 5 ≤ r2 ∧ σ 21 (σ 23 node) = 0) ∨ (v0_128 = 0 ∧ (r2 < 5 ∨ σ 21 (σ 23 node) ≠ 0)) := hi128_0; have h168 : (v0_105 ≠ 0 ∧ zp_rm σ o (σ 24 node) = true) ∨ (v0_105 = 0 ∧ 0 ≤ σ 31 (σ 24 node)) := hi168_1; rw [zp_c_y (by omega) ⟨by omega, by omega⟩ (by omega) (fun q => q.elim (fun q1 => by rcases h168 with ⟨a, b⟩ | ⟨a, b⟩; exact q1.2 b; exact absurd q1.1 (show ¬ zp_lit σ o = true from fun q => absurd (of_decide_eq_true q) (show ¬ (zx_form σ o = 4 ∨ zx_form σ o = 6) by omega))) (fun q1 => by rcases h168 with ⟨a, b⟩ | ⟨a, b⟩; exact q1.1 (show zp_lit σ o = true from decide_eq_true (show zx_form σ o = 4 ∨ zx_form σ o = 6 by omega)); exact absurd q1.2 (by omega))) (fun q => absurd q.2 (by omega)), if_pos (show zp_lit σ o = true from decide_eq_true (show zx_form σ o = 4 ∨ zx_form σ o = 6 by omega)), if_pos (show zp_ipv σ o node = true from decide_eq_true (show 5 ≤ zx_form σ o ∧ σ 21 (σ 23 node) = 0 by omega))]; try omega)⟩⟩
                refine zr_if_eq (pc := 170) hV 179 dX12_costBy_170 (by decide) (by omega) (fun c20 => ?_) (fun c20 => ?_)
                · exact J179 (by omega)
                · show V 173 [some (ZR 0), some (ZI o), none, some (ZI move), none, some (ZI (σ 23 node)), some (ZI (σ 24 node)), some (ZI v0_105), some (ZI v0_128)] [] 41 σ
                  refine zr_iload_n (pc := 173) hV dX12_costBy_173 rfl rfl ?_
                  refine zr_if_ge (pc := 174) hV 179 dX12_costBy_174 (by decide) (by omega) (fun c21 => ?_) (fun c21 => ?_)
                  · exact J179 (by omega)
                  · show V 177 [some (ZR 0), some (ZI o), none, some (ZI move), none, some (ZI (σ 23 node)), some (ZI (σ 24 node)), some (ZI v0_105), some (ZI v0_128)] [] 41 σ
                    refine zr_iconst (pc := 177) hV (-1) dX12_costBy_177 rfl ?_
                    exact zr_iret (pc := 178) hV dX12_costBy_178 rfl rfl ⟨rfl, _, rfl, ⟨by decide, by decide⟩, ⟨trivial, (by unfold zq_hid; exact fun h => absurd h (by decide)), (by first | exact (zp_c_1n (by omega) (fun q => absurd q.1 (by omega))).symm | exact (zp_c_1n (by omega) (fun q => absurd (pr26.2.mpr q.2) (by omega))).symm | exact (zp_c_s (by omega) (by omega)).symm | exact (zp_c_l (by omega) ⟨by omega, by omega⟩ (by omega)).symm | (have u1 : (v0_105 = 1 ∧ (r2 = 4 ∨ r2 = 6)) ∨ (v0_105 = 0 ∧ r2 ≠ 4 ∧ r2 ≠ 6) := hi105_0; have u2 : (v0_128 = 1 ∧ 5 ≤ r2 ∧ σ 21 (σ 23 node) = 0) ∨ (v0_128 = 0 ∧ (r2 < 5 ∨ σ 21 (σ 23 node) ≠ 0)) := hi128_0; exact (zp_c_r (by omega) ⟨by omega, by omega⟩ (by omega) (Or.inl ⟨(show zp_lit σ o = true from decide_eq_true (show zx_form σ o = 4 ∨ zx_form σ o = 6 by omega)), fun q => absurd (pr149.2.mpr q) (by omega)⟩)).symm) | (have u1 : (v0_105 = 1 ∧ (r2 = 4 ∨ r2 = 6)) ∨ (v0_105 = 0 ∧ r2 ≠ 4 ∧ r2 ≠ 6) := hi105_0; have u2 : (v0_128 = 1 ∧ 5 ≤ r2 ∧ σ 21 (σ 23 node) = 0) ∨ (v0_128 = 0 ∧ (r2 < 5 ∨ σ 21 (σ 23 node) ≠ 0)) := hi128_0; exact (zp_c_r (by omega) ⟨by omega, by omega⟩ (by omega) (Or.inr ⟨(show ¬ zp_lit σ o = true from fun q => absurd (of_decide_eq_true q) (show ¬ (zx_form σ o = 4 ∨ zx_form σ o = 6) by omega)), by omega⟩)).symm) | (have u1 : (v0_105 = 1 ∧ (r2 = 4 ∨ r2 = 6)) ∨ (v0_105 = 0 ∧ r2 ≠ 4 ∧ r2 ≠ 6) := hi105_0; have u2 : (v0_128 = 1 ∧ 5 ≤ r2 ∧ σ 21 (σ 23 node) = 0) ∨ (v0_128 = 0 ∧ (r2 < 5 ∨ σ 21 (σ 23 node) ≠ 0)) := hi128_0; have h168 : (v0_105 ≠ 0 ∧ zp_rm σ o (σ 24 node) = true) ∨ (v0_105 = 0 ∧ 0 ≤ σ 31 (σ 24 node)) := hi168_1; exact (zp_c_m (by omega) ⟨by omega, by omega⟩ (by omega) (fun q => q.elim (fun q1 => by rcases h168 with ⟨a, b⟩ | ⟨a, b⟩; exact q1.2 b; exact absurd q1.1 (show ¬ zp_lit σ o = true from fun q => absurd (of_decide_eq_true q) (show ¬ (zx_form σ o = 4 ∨ zx_form σ o = 6) by omega))) (fun q1 => by rcases h168 with ⟨a, b⟩ | ⟨a, b⟩; exact q1.1 (show zp_lit σ o = true from decide_eq_true (show zx_form σ o = 4 ∨ zx_form σ o = 6 by omega)); exact absurd q1.2 (by omega))) ⟨(show zp_ipv σ o node = true from decide_eq_true (show 5 ≤ zx_form σ o ∧ σ 21 (σ 23 node) = 0 by omega)), by omega⟩).symm))⟩⟩
              refine zr_if_eq (pc := 142) hV 158 dX12_costBy_142 (by decide) (by omega) (fun c22 => ?_) (fun c22 => ?_)
              · show V 158 [some (ZR 0), some (ZI o), none, some (ZI move), none, some (ZI (σ 23 node)), some (ZI (σ 24 node)), some (ZI v0_105), some (ZI v0_128)] [] 41 σ
                refine zr_aload_n (pc := 158) hV dX12_costBy_158 rfl rfl ?_
                refine zr_getR (pc := 159) hV 51 31 dX12_costBy_159 fX12_117 rfl rfl rfl (by decide) (zx_g51 hσ) (by omega) ?_
                refine zr_iload (pc := 162) hV dX12_costBy_162 rfl ?_
                refine zr_iald (pc := 164) hV dX12_costBy_164 rfl (by decide) rfl (by omega) ?_
                have t23 := zx_ga31 hσ (σ 24 node)
                refine zr_if_lt (pc := 165) hV 177 dX12_costBy_165 (by decide) (by omega) (fun c24 => ?_) (fun c24 => ?_)
                · show V 177 [some (ZR 0), some (ZI o), none, some (ZI move), none, some (ZI (σ 23 node)), some (ZI (σ 24 node)), some (ZI v0_105), some (ZI v0_128)] [] 41 σ
                  refine zr_iconst (pc := 177) hV (-1) dX12_costBy_177 rfl ?_
                  exact zr_iret (pc := 178) hV dX12_costBy_178 rfl rfl ⟨rfl, _, rfl, ⟨by decide, by decide⟩, ⟨trivial, (by unfold zq_hid; exact fun h => absurd h (by decide)), (by first | exact (zp_c_1n (by omega) (fun q => absurd q.1 (by omega))).symm | exact (zp_c_1n (by omega) (fun q => absurd (pr26.2.mpr q.2) (by omega))).symm | exact (zp_c_s (by omega) (by omega)).symm | exact (zp_c_l (by omega) ⟨by omega, by omega⟩ (by omega)).symm | (have u1 : (v0_105 = 1 ∧ (r2 = 4 ∨ r2 = 6)) ∨ (v0_105 = 0 ∧ r2 ≠ 4 ∧ r2 ≠ 6) := hi105_0; have u2 : (v0_128 = 1 ∧ 5 ≤ r2 ∧ σ 21 (σ 23 node) = 0) ∨ (v0_128 = 0 ∧ (r2 < 5 ∨ σ 21 (σ 23 node) ≠ 0)) := hi128_0; exact (zp_c_r (by omega) ⟨by omega, by omega⟩ (by omega) (Or.inl ⟨(show zp_lit σ o = true from decide_eq_true (show zx_form σ o = 4 ∨ zx_form σ o = 6 by omega)), fun q => absurd (pr149.2.mpr q) (by omega)⟩)).symm) | (have u1 : (v0_105 = 1 ∧ (r2 = 4 ∨ r2 = 6)) ∨ (v0_105 = 0 ∧ r2 ≠ 4 ∧ r2 ≠ 6) := hi105_0; have u2 : (v0_128 = 1 ∧ 5 ≤ r2 ∧ σ 21 (σ 23 node) = 0) ∨ (v0_128 = 0 ∧ (r2 < 5 ∨ σ 21 (σ 23 node) ≠ 0)) := hi128_0; exact (zp_c_r (by omega) ⟨by omega, by omega⟩ (by omega) (Or.inr ⟨(show ¬ zp_lit σ o = true from fun q => absurd (of_decide_eq_true q) (show ¬ (zx_form σ o = 4 ∨ zx_form σ o = 6) by omega)), by omega⟩)).symm) | (have u1 : (v0_105 = 1 ∧ (r2 = 4 ∨ r2 = 6)) ∨ (v0_105 = 0 ∧ r2 ≠ 4 ∧ r2 ≠ 6) := hi105_0; have u2 : (v0_128 = 1 ∧ 5 ≤ r2 ∧ σ 21 (σ 23 node) = 0) ∨ (v0_128 = 0 ∧ (r2 < 5 ∨ σ 21 (σ 23 node) ≠ 0)) := hi128_0; have h168 : (v0_105 ≠ 0 ∧ zp_rm σ o (σ 24 node) = true) ∨ (v0_105 = 0 ∧ 0 ≤ σ 31 (σ 24 node)) := hi168_1; exact (zp_c_m (by omega) ⟨by omega, by omega⟩ (by omega) (fun q => q.elim (fun q1 => by rcases h168 with ⟨a, b⟩ | ⟨a, b⟩; exact q1.2 b; exact absurd q1.1 (show ¬ zp_lit σ o = true from fun q => absurd (of_decide_eq_true q) (show ¬ (zx_form σ o = 4 ∨ zx_form σ o = 6) by omega))) (fun q1 => by rcases h168 with ⟨a, b⟩ | ⟨a, b⟩; exact q1.1 (show zp_lit σ o = true from decide_eq_true (show zx_form σ o = 4 ∨ zx_form σ o = 6 by omega)); exact absurd q1.2 (by omega))) ⟨(show zp_ipv σ o node = true from decide_eq_true (show 5 ≤ zx_form σ o ∧ σ 21 (σ 23 node) = 0 by omega)), by omega⟩).symm))⟩⟩
                · exact J168 (by omega) (by unfold zq_hid; first | exact Or.inl ⟨by omega, pr149.2.mp (by omega)⟩ | exact Or.inr ⟨by omega, by omega⟩)
              · show V 145 [some (ZR 0), some (ZI o), none, some (ZI move), none, some (ZI (σ 23 node)), some (ZI (σ 24 node)), some (ZI v0_105), some (ZI v0_128)] [] 41 σ
                refine zr_aload_n (pc := 145) hV dX12_costBy_145 rfl rfl ?_
                refine zr_iload_n (pc := 146) hV dX12_costBy_146 rfl rfl ?_
                refine zr_iload (pc := 147) hV dX12_costBy_147 rfl ?_
                refine zr_callVp (pc := 149) hV [ZI o, ZI (σ 24 node)] (st := []) (c_X12_hasRoom2 (σ := σ) hσ o (σ 24 node) (by omega) (by omega)) dX12_costBy_149 mX12_431 rfl (by decide) (by decide) (Nat.le_of_ble_eq_true rfl) (Nat.le_refl _) (fun r149 hr149 pr149 => ?_)
                refine zr_if_ne (pc := 152) hV 168 dX12_costBy_152 (by decide) (by omega) (fun c25 => ?_) (fun c25 => ?_)
                · exact J168 (by omega) (by unfold zq_hid; first | exact Or.inl ⟨by omega, pr149.2.mp (by omega)⟩ | exact Or.inr ⟨by omega, by omega⟩)
                · show V 155 [some (ZR 0), some (ZI o), none, some (ZI move), none, some (ZI (σ 23 node)), some (ZI (σ 24 node)), some (ZI v0_105), some (ZI v0_128)] [] 41 σ
                  refine zr_goto (pc := 155) hV 177 dX12_costBy_155 (by decide) ?_
                  show V 177 [some (ZR 0), some (ZI o), none, some (ZI move), none, some (ZI (σ 23 node)), some (ZI (σ 24 node)), some (ZI v0_105), some (ZI v0_128)] [] 41 σ
                  refine zr_iconst (pc := 177) hV (-1) dX12_costBy_177 rfl ?_
                  exact zr_iret (pc := 178) hV dX12_costBy_178 rfl rfl ⟨rfl, _, rfl, ⟨by decide, by decide⟩, ⟨trivial, (by unfold zq_hid; exact fun h => absurd h (by decide)), (by first | exact (zp_c_1n (by omega) (fun q => absurd q.1 (by omega))).symm | exact (zp_c_1n (by omega) (fun q => absurd (pr26.2.mpr q.2) (by omega))).symm | exact (zp_c_s (by omega) (by omega)).symm | exact (zp_c_l (by omega) ⟨by omega, by omega⟩ (by omega)).symm | (have u1 : (v0_105 = 1 ∧ (r2 = 4 ∨ r2 = 6)) ∨ (v0_105 = 0 ∧ r2 ≠ 4 ∧ r2 ≠ 6) := hi105_0; have u2 : (v0_128 = 1 ∧ 5 ≤ r2 ∧ σ 21 (σ 23 node) = 0) ∨ (v0_128 = 0 ∧ (r2 < 5 ∨ σ 21 (σ 23 node) ≠ 0)) := hi128_0; exact (zp_c_r (by omega) ⟨by omega, by omega⟩ (by omega) (Or.inl ⟨(show zp_lit σ o = true from decide_eq_true (show zx_form σ o = 4 ∨ zx_form σ o = 6 by omega)), fun q => absurd (pr149.2.mpr q) (by omega)⟩)).symm) | (have u1 : (v0_105 = 1 ∧ (r2 = 4 ∨ r2 = 6)) ∨ (v0_105 = 0 ∧ r2 ≠ 4 ∧ r2 ≠ 6) := hi105_0; have u2 : (v0_128 = 1 ∧ 5 ≤ r2 ∧ σ 21 (σ 23 node) = 0) ∨ (v0_128 = 0 ∧ (r2 < 5 ∨ σ 21 (σ 23 node) ≠ 0)) := hi128_0; exact (zp_c_r (by omega) ⟨by omega, by omega⟩ (by omega) (Or.inr ⟨(show ¬ zp_lit σ o = true from fun q => absurd (of_decide_eq_true q) (show ¬ (zx_form σ o = 4 ∨ zx_form σ o = 6) by omega)), by omega⟩)).symm) | (have u1 : (v0_105 = 1 ∧ (r2 = 4 ∨ r2 = 6)) ∨ (v0_105 = 0 ∧ r2 ≠ 4 ∧ r2 ≠ 6) := hi105_0; have u2 : (v0_128 = 1 ∧ 5 ≤ r2 ∧ σ 21 (σ 23 node) = 0) ∨ (v0_128 = 0 ∧ (r2 < 5 ∨ σ 21 (σ 23 node) ≠ 0)) := hi128_0; have h168 : (v0_105 ≠ 0 ∧ zp_rm σ o (σ 24 node) = true) ∨ (v0_105 = 0 ∧ 0 ≤ σ 31 (σ 24 node)) := hi168_1; exact (zp_c_m (by omega) ⟨by omega, by omega⟩ (by omega) (fun q => q.elim (fun q1 => by rcases h168 with ⟨a, b⟩ | ⟨a, b⟩; exact q1.2 b; exact absurd q1.1 (show ¬ zp_lit σ o = true from fun q => absurd (of_decide_eq_true q) (show ¬ (zx_form σ o = 4 ∨ zx_form σ o = 6) by omega))) (fun q1 => by rcases h168 with ⟨a, b⟩ | ⟨a, b⟩; exact q1.1 (show zp_lit σ o = true from decide_eq_true (show zx_form σ o = 4 ∨ zx_form σ o = 6 by omega)); exact absurd q1.2 (by omega))) ⟨(show zp_ipv σ o node = true from decide_eq_true (show 5 ≤ zx_form σ o ∧ σ 21 (σ 23 node) = 0 by omega)), by omega⟩).symm))⟩⟩
          have J127 : (zq_hid (r2 < 5 ∨ σ 21 (σ 23 node) ≠ 0)) → V 127 [some (ZR 0), some (ZI o), none, some (ZI move), none, some (ZI (σ 23 node)), some (ZI (σ 24 node)), some (ZI v0_105), none] [] 41 σ := by
            intro hi127_0
            show V 127 [some (ZR 0), some (ZI o), none, some (ZI move), none, some (ZI (σ 23 node)), some (ZI (σ 24 node)), some (ZI v0_105), none] [] 41 σ
            refine zr_iconst (pc := 127) hV 0 dX12_costBy_127 rfl ?_
            exact J128 0 (by omega) (by have u : r2 < 5 ∨ σ 21 (σ 23 node) ≠ 0 := hi127_0; unfold zq_hid; omega)
          refine zr_icmp_lt (pc := 110) hV 127 dX12_costBy_110 (by decide) (by omega) ⟨by decide, by decide⟩ (fun c26 => ?_) (fun c26 => ?_)
          · refine zr_sub (pc := 127) hV [some (ZR 0), some (ZI o), none, some (ZI move), none, some (ZI (σ 23 node)), some (ZI (σ 24 node)), some (ZI v0_105), none] (⟨rfl, rfl, rfl, rfl, rfl, rfl, trivial⟩) ?_
            exact J127 (by unfold zq_hid; omega)
          · show V 113 [some (ZR 0), some (ZI o), none, some (ZI move), some (ZI r2), some (ZI (σ 23 node)), some (ZI (σ 24 node)), some (ZI v0_105), none] [] 41 σ
            refine zr_aload_n (pc := 113) hV dX12_costBy_113 rfl rfl ?_
            refine zr_getR (pc := 114) hV 38 21 dX12_costBy_114 fX12_87 rfl rfl rfl (by decide) (zx_g38 hσ) (by omega) ?_
            refine zr_iload (pc := 117) hV dX12_costBy_117 rfl ?_
            refine zr_iald (pc := 119) hV dX12_costBy_119 rfl (by decide) rfl (by omega) ?_
            have t27 := zx_ga21 hσ (σ 23 node)
            refine zr_if_ne (pc := 120) hV 127 dX12_costBy_120 (by decide) (by omega) (fun c28 => ?_) (fun c28 => ?_)
            · refine zr_sub (pc := 127) hV [some (ZR 0), some (ZI o), none, some (ZI move), none, some (ZI (σ 23 node)), some (ZI (σ 24 node)), some (ZI v0_105), none] (⟨rfl, rfl, rfl, rfl, rfl, rfl, trivial⟩) ?_
              exact J127 (by unfold zq_hid; omega)
            · show V 123 [some (ZR 0), some (ZI o), none, some (ZI move), some (ZI r2), some (ZI (σ 23 node)), some (ZI (σ 24 node)), some (ZI v0_105), none] [] 41 σ
              refine zr_iconst (pc := 123) hV 1 dX12_costBy_123 rfl ?_
              refine zr_goto (pc := 124) hV 128 dX12_costBy_124 (by decide) ?_
              refine zr_sub (pc := 128) hV [some (ZR 0), some (ZI o), none, some (ZI move), none, some (ZI (σ 23 node)), some (ZI (σ 24 node)), some (ZI v0_105), none] (⟨rfl, rfl, rfl, rfl, rfl, rfl, trivial⟩) ?_
              exact J128 1 (by omega) (by unfold zq_hid; omega)
        have J100 : (zq_hid (r2 = 4 ∨ r2 = 6)) → V 100 [some (ZR 0), some (ZI o), none, some (ZI move), some (ZI r2), some (ZI (σ 23 node)), some (ZI (σ 24 node)), none, none] [] 41 σ := by
          intro hi100_0
          show V 100 [some (ZR 0), some (ZI o), none, some (ZI move), some (ZI r2), some (ZI (σ 23 node)), some (ZI (σ 24 node)), none, none] [] 41 σ
          refine zr_iconst (pc := 100) hV 1 dX12_costBy_100 rfl ?_
          refine zr_goto (pc := 101) hV 105 dX12_costBy_101 (by decide) ?_
          exact J105 1 (by omega) (by have u : r2 = 4 ∨ r2 = 6 := hi100_0; unfold zq_hid; omega)
        refine zr_icmp_eq (pc := 90) hV 100 dX12_costBy_90 (by decide) (by omega) ⟨by decide, by decide⟩ (fun c29 => ?_) (fun c29 => ?_)
        · refine zr_sub (pc := 100) hV [some (ZR 0), some (ZI o), none, some (ZI move), some (ZI r2), some (ZI (σ 23 node)), some (ZI (σ 24 node)), none, none] (⟨rfl, rfl, rfl, rfl, rfl, rfl, trivial⟩) ?_
          exact J100 (by unfold zq_hid; omega)
        · show V 93 [some (ZR 0), some (ZI o), some (ZI node), some (ZI move), some (ZI r2), some (ZI (σ 23 node)), some (ZI (σ 24 node)), none, none] [] 41 σ
          refine zr_iload (pc := 93) hV dX12_costBy_93 rfl ?_
          refine zr_bipush (pc := 95) hV 6 dX12_costBy_95 (by decide) ?_
          refine zr_icmp_ne (pc := 97) hV 104 dX12_costBy_97 (by decide) (by omega) ⟨by decide, by decide⟩ (fun c30 => ?_) (fun c30 => ?_)
          · show V 104 [some (ZR 0), some (ZI o), some (ZI node), some (ZI move), some (ZI r2), some (ZI (σ 23 node)), some (ZI (σ 24 node)), none, none] [] 41 σ
            refine zr_iconst (pc := 104) hV 0 dX12_costBy_104 rfl ?_
            refine zr_sub (pc := 105) hV [some (ZR 0), some (ZI o), none, some (ZI move), some (ZI r2), some (ZI (σ 23 node)), some (ZI (σ 24 node)), none, none] (⟨rfl, rfl, rfl, rfl, rfl, rfl, trivial⟩) ?_
            exact J105 0 (by omega) (by unfold zq_hid; omega)
          · refine zr_sub (pc := 100) hV [some (ZR 0), some (ZI o), none, some (ZI move), some (ZI r2), some (ZI (σ 23 node)), some (ZI (σ 24 node)), none, none] (⟨rfl, rfl, rfl, rfl, rfl, rfl, trivial⟩) ?_
            exact J100 (by unfold zq_hid; omega)
      · show V 69 [some (ZR 0), some (ZI o), some (ZI node), some (ZI move), some (ZI r2), none, none, none, none] [] 41 σ
        refine zr_iconst (pc := 69) hV (-1) dX12_costBy_69 rfl ?_
        exact zr_iret (pc := 70) hV dX12_costBy_70 rfl rfl ⟨rfl, _, rfl, ⟨by decide, by decide⟩, ⟨trivial, (by unfold zq_hid; exact fun h => absurd h (by decide)), (by first | exact (zp_c_1n (by omega) (fun q => absurd q.1 (by omega))).symm | exact (zp_c_1n (by omega) (fun q => absurd (pr26.2.mpr q.2) (by omega))).symm | exact (zp_c_s (by omega) (by omega)).symm | exact (zp_c_l (by omega) ⟨by omega, by omega⟩ (by omega)).symm | (have u1 : (v0_105 = 1 ∧ (r2 = 4 ∨ r2 = 6)) ∨ (v0_105 = 0 ∧ r2 ≠ 4 ∧ r2 ≠ 6) := hi105_0; have u2 : (v0_128 = 1 ∧ 5 ≤ r2 ∧ σ 21 (σ 23 node) = 0) ∨ (v0_128 = 0 ∧ (r2 < 5 ∨ σ 21 (σ 23 node) ≠ 0)) := hi128_0; exact (zp_c_r (by omega) ⟨by omega, by omega⟩ (by omega) (Or.inl ⟨(show zp_lit σ o = true from decide_eq_true (show zx_form σ o = 4 ∨ zx_form σ o = 6 by omega)), fun q => absurd (pr149.2.mpr q) (by omega)⟩)).symm) | (have u1 : (v0_105 = 1 ∧ (r2 = 4 ∨ r2 = 6)) ∨ (v0_105 = 0 ∧ r2 ≠ 4 ∧ r2 ≠ 6) := hi105_0; have u2 : (v0_128 = 1 ∧ 5 ≤ r2 ∧ σ 21 (σ 23 node) = 0) ∨ (v0_128 = 0 ∧ (r2 < 5 ∨ σ 21 (σ 23 node) ≠ 0)) := hi128_0; exact (zp_c_r (by omega) ⟨by omega, by omega⟩ (by omega) (Or.inr ⟨(show ¬ zp_lit σ o = true from fun q => absurd (of_decide_eq_true q) (show ¬ (zx_form σ o = 4 ∨ zx_form σ o = 6) by omega)), by omega⟩)).symm) | (have u1 : (v0_105 = 1 ∧ (r2 = 4 ∨ r2 = 6)) ∨ (v0_105 = 0 ∧ r2 ≠ 4 ∧ r2 ≠ 6) := hi105_0; have u2 : (v0_128 = 1 ∧ 5 ≤ r2 ∧ σ 21 (σ 23 node) = 0) ∨ (v0_128 = 0 ∧ (r2 < 5 ∨ σ 21 (σ 23 node) ≠ 0)) := hi128_0; have h168 : (0 ≠ 0 ∧ zp_rm σ o (σ 24 node) = true) ∨ (0 = 0 ∧ 0 ≤ σ 31 (σ 24 node)) := hi168_1; exact (zp_c_m (by omega) ⟨by omega, by omega⟩ (by omega) (fun q => q.elim (fun q1 => by rcases h168 with ⟨a, b⟩ | ⟨a, b⟩; exact q1.2 b; exact absurd q1.1 (show ¬ zp_lit σ o = true from fun q => absurd (of_decide_eq_true q) (show ¬ (zx_form σ o = 4 ∨ zx_form σ o = 6) by omega))) (fun q1 => by rcases h168 with ⟨a, b⟩ | ⟨a, b⟩; exact q1.1 (show zp_lit σ o = true from decide_eq_true (show zx_form σ o = 4 ∨ zx_form σ o = 6 by omega)); exact absurd q1.2 (by omega))) ⟨(show zp_ipv σ o node = true from decide_eq_true (show 5 ≤ zx_form σ o ∧ σ 21 (σ 23 node) = 0 by omega)), by omega⟩).symm))⟩⟩
  · show V 17 [some (ZR 0), some (ZI o), some (ZI node), some (ZI move), some (ZI r2), none, none, none, none] [] 41 σ
    refine zr_iload (pc := 17) hV dX12_costBy_17 rfl ?_
    refine zr_iconst (pc := 19) hV 1 dX12_costBy_19 rfl ?_
    refine zr_icmp_ne (pc := 20) hV 41 dX12_costBy_20 (by decide) (by omega) ⟨by decide, by decide⟩ (fun c31 => ?_) (fun c31 => ?_)
    · show V 41 [some (ZR 0), some (ZI o), some (ZI node), some (ZI move), some (ZI r2), none, none, none, none] [] 41 σ
      refine zr_iconst (pc := 41) hV (-1) dX12_costBy_41 rfl ?_
      show V 42 [some (ZR 0), some (ZI o), some (ZI node), some (ZI move), some (ZI r2), none, none, none, none] [ZI (-1)] 41 σ
      exact zr_iret (pc := 42) hV dX12_costBy_42 rfl rfl ⟨rfl, _, rfl, ⟨by decide, by decide⟩, ⟨trivial, (by unfold zq_hid; exact fun h => absurd h (by decide)), (by first | exact (zp_c_1n (by omega) (fun q => absurd q.1 (by omega))).symm | exact (zp_c_1n (by omega) (fun q => absurd (pr26.2.mpr q.2) (by omega))).symm | exact (zp_c_s (by omega) (by omega)).symm | exact (zp_c_l (by omega) ⟨by omega, by omega⟩ (by omega)).symm | (have u1 : (v0_105 = 1 ∧ (r2 = 4 ∨ r2 = 6)) ∨ (v0_105 = 0 ∧ r2 ≠ 4 ∧ r2 ≠ 6) := hi105_0; have u2 : (v0_128 = 1 ∧ 5 ≤ r2 ∧ σ 21 (σ 23 node) = 0) ∨ (v0_128 = 0 ∧ (r2 < 5 ∨ σ 21 (σ 23 node) ≠ 0)) := hi128_0; exact (zp_c_r (by omega) ⟨by omega, by omega⟩ (by omega) (Or.inl ⟨(show zp_lit σ o = true from decide_eq_true (show zx_form σ o = 4 ∨ zx_form σ o = 6 by omega)), fun q => absurd (pr149.2.mpr q) (by omega)⟩)).symm) | (have u1 : (v0_105 = 1 ∧ (r2 = 4 ∨ r2 = 6)) ∨ (v0_105 = 0 ∧ r2 ≠ 4 ∧ r2 ≠ 6) := hi105_0; have u2 : (v0_128 = 1 ∧ 5 ≤ r2 ∧ σ 21 (σ 23 node) = 0) ∨ (v0_128 = 0 ∧ (r2 < 5 ∨ σ 21 (σ 23 node) ≠ 0)) := hi128_0; exact (zp_c_r (by omega) ⟨by omega, by omega⟩ (by omega) (Or.inr ⟨(show ¬ zp_lit σ o = true from fun q => absurd (of_decide_eq_true q) (show ¬ (zx_form σ o = 4 ∨ zx_form σ o = 6) by omega)), by omega⟩)).symm) | (have u1 : (v0_105 = 1 ∧ (r2 = 4 ∨ r2 = 6)) ∨ (v0_105 = 0 ∧ r2 ≠ 4 ∧ r2 ≠ 6) := hi105_0; have u2 : (v0_128 = 1 ∧ 5 ≤ r2 ∧ σ 21 (σ 23 node) = 0) ∨ (v0_128 = 0 ∧ (r2 < 5 ∨ σ 21 (σ 23 node) ≠ 0)) := hi128_0; have h168 : (0 ≠ 0 ∧ zp_rm σ o (σ 24 node) = true) ∨ (0 = 0 ∧ 0 ≤ σ 31 (σ 24 node)) := hi168_1; exact (zp_c_m (by omega) ⟨by omega, by omega⟩ (by omega) (fun q => q.elim (fun q1 => by rcases h168 with ⟨a, b⟩ | ⟨a, b⟩; exact q1.2 b; exact absurd q1.1 (show ¬ zp_lit σ o = true from fun q => absurd (of_decide_eq_true q) (show ¬ (zx_form σ o = 4 ∨ zx_form σ o = 6) by omega))) (fun q1 => by rcases h168 with ⟨a, b⟩ | ⟨a, b⟩; exact q1.1 (show zp_lit σ o = true from decide_eq_true (show zx_form σ o = 4 ∨ zx_form σ o = 6 by omega)); exact absurd q1.2 (by omega))) ⟨(show zp_ipv σ o node = true from decide_eq_true (show 5 ≤ zx_form σ o ∧ σ 21 (σ 23 node) = 0 by omega)), by omega⟩).symm))⟩⟩
    · show V 23 [some (ZR 0), some (ZI o), some (ZI node), some (ZI move), some (ZI r2), none, none, none, none] [] 41 σ
      refine zr_aload_n (pc := 23) hV dX12_costBy_23 rfl rfl ?_
      refine zr_iload_n (pc := 24) hV dX12_costBy_24 rfl rfl ?_
      refine zr_iload_n (pc := 25) hV dX12_costBy_25 rfl rfl ?_
      refine zr_callVp (pc := 26) hV [ZI o, ZI node] (st := []) (c_X12_hasRoom2 (σ := σ) hσ o node (by omega) (by omega)) dX12_costBy_26 mX12_431 rfl (by decide) (by decide) (Nat.le_of_ble_eq_true rfl) (Nat.le_refl _) (fun r26 hr26 pr26 => ?_)
      refine zr_if_eq (pc := 29) hV 41 dX12_costBy_29 (by decide) (by omega) (fun c32 => ?_) (fun c32 => ?_)
      · show V 41 [some (ZR 0), some (ZI o), some (ZI node), some (ZI move), some (ZI r2), none, none, none, none] [] 41 σ
        refine zr_iconst (pc := 41) hV (-1) dX12_costBy_41 rfl ?_
        show V 42 [some (ZR 0), some (ZI o), some (ZI node), some (ZI move), some (ZI r2), none, none, none, none] [ZI (-1)] 41 σ
        exact zr_iret (pc := 42) hV dX12_costBy_42 rfl rfl ⟨rfl, _, rfl, ⟨by decide, by decide⟩, ⟨trivial, (by unfold zq_hid; exact fun h => absurd h (by decide)), (by first | exact (zp_c_1n (by omega) (fun q => absurd q.1 (by omega))).symm | exact (zp_c_1n (by omega) (fun q => absurd (pr26.2.mpr q.2) (by omega))).symm | exact (zp_c_s (by omega) (by omega)).symm | exact (zp_c_l (by omega) ⟨by omega, by omega⟩ (by omega)).symm | (have u1 : (v0_105 = 1 ∧ (r2 = 4 ∨ r2 = 6)) ∨ (v0_105 = 0 ∧ r2 ≠ 4 ∧ r2 ≠ 6) := hi105_0; have u2 : (v0_128 = 1 ∧ 5 ≤ r2 ∧ σ 21 (σ 23 node) = 0) ∨ (v0_128 = 0 ∧ (r2 < 5 ∨ σ 21 (σ 23 node) ≠ 0)) := hi128_0; exact (zp_c_r (by omega) ⟨by omega, by omega⟩ (by omega) (Or.inl ⟨(show zp_lit σ o = true from decide_eq_true (show zx_form σ o = 4 ∨ zx_form σ o = 6 by omega)), fun q => absurd (pr149.2.mpr q) (by omega)⟩)).symm) | (have u1 : (v0_105 = 1 ∧ (r2 = 4 ∨ r2 = 6)) ∨ (v0_105 = 0 ∧ r2 ≠ 4 ∧ r2 ≠ 6) := hi105_0; have u2 : (v0_128 = 1 ∧ 5 ≤ r2 ∧ σ 21 (σ 23 node) = 0) ∨ (v0_128 = 0 ∧ (r2 < 5 ∨ σ 21 (σ 23 node) ≠ 0)) := hi128_0; exact (zp_c_r (by omega) ⟨by omega, by omega⟩ (by omega) (Or.inr ⟨(show ¬ zp_lit σ o = true from fun q => absurd (of_decide_eq_true q) (show ¬ (zx_form σ o = 4 ∨ zx_form σ o = 6) by omega)), by omega⟩)).symm) | (have u1 : (v0_105 = 1 ∧ (r2 = 4 ∨ r2 = 6)) ∨ (v0_105 = 0 ∧ r2 ≠ 4 ∧ r2 ≠ 6) := hi105_0; have u2 : (v0_128 = 1 ∧ 5 ≤ r2 ∧ σ 21 (σ 23 node) = 0) ∨ (v0_128 = 0 ∧ (r2 < 5 ∨ σ 21 (σ 23 node) ≠ 0)) := hi128_0; have h168 : (0 ≠ 0 ∧ zp_rm σ o (σ 24 node) = true) ∨ (0 = 0 ∧ 0 ≤ σ 31 (σ 24 node)) := hi168_1; exact (zp_c_m (by omega) ⟨by omega, by omega⟩ (by omega) (fun q => q.elim (fun q1 => by rcases h168 with ⟨a, b⟩ | ⟨a, b⟩; exact q1.2 b; exact absurd q1.1 (show ¬ zp_lit σ o = true from fun q => absurd (of_decide_eq_true q) (show ¬ (zx_form σ o = 4 ∨ zx_form σ o = 6) by omega))) (fun q1 => by rcases h168 with ⟨a, b⟩ | ⟨a, b⟩; exact q1.1 (show zp_lit σ o = true from decide_eq_true (show zx_form σ o = 4 ∨ zx_form σ o = 6 by omega)); exact absurd q1.2 (by omega))) ⟨(show zp_ipv σ o node = true from decide_eq_true (show 5 ≤ zx_form σ o ∧ σ 21 (σ 23 node) = 0 by omega)), by omega⟩).symm))⟩⟩
      · show V 32 [some (ZR 0), some (ZI o), some (ZI node), some (ZI move), some (ZI r2), none, none, none, none] [] 41 σ
        refine zr_aload_n (pc := 32) hV dX12_costBy_32 rfl rfl ?_
        refine zr_getR (pc := 33) hV 10 7 dX12_costBy_33 fX12_38 rfl rfl rfl (by decide) (zx_g10 hσ) (by omega) ?_
        refine zr_iload_n (pc := 36) hV dX12_costBy_36 rfl rfl ?_
        refine zr_iald (pc := 37) hV dX12_costBy_37 rfl (by decide) rfl (by omega) ?_
        have t33 := zx_ga7 hσ o
        refine zr_goto (pc := 38) hV 42 dX12_costBy_38 (by decide) ?_
        show V 42 [some (ZR 0), some (ZI o), some (ZI node), some (ZI move), some (ZI r2), none, none, none, none] [ZI (σ 7 o)] 41 σ
        exact zr_iret (pc := 42) hV dX12_costBy_42 rfl rfl ⟨rfl, _, rfl, (by omega), ⟨trivial, (by unfold zq_hid; exact fun _ => ⟨fun _ => by omega, fun h => absurd (by omega) h⟩), (zp_c_1y (by omega) ⟨by omega, pr26.2.mp (by omega)⟩).symm⟩⟩
set_option maxHeartbeats 800000 in
theorem c_X12_findPrices2 {σ : zq_S} (hσ : zx_T σ) (q0 : 1 ≤ σ 0 37) (q1 : zx_Lt σ) (q2 : ∃ f, zx_tree (σ 21) (σ 23) (σ 24) f (σ 0 37)) : zq_C zx_w yX12_findPrices cX12_findPrices 5 (some .int) 5 122 41 41 [ZR 0] σ (zq_pi (fun r τ => zx_T τ ∧ (∀ a i : Int, (a ≠ 31 ∧ a ≠ 32) → τ a i = σ a i) ∧ (True) ∧ zq_hid ((0 ≤ r → zx_FP τ) ∧ r = zp_q σ))) := by
  refine zq_C_of (by decide) (Nat.le_refl _) (Nat.le_of_ble_eq_true rfl) [some (ZR 0), none, none, none, none] rfl (fun V hV => ?_)
  have z37 := zx_g37 hσ
  have z3 := zx_g3 hσ
  show V 0 [some (ZR 0), none, none, none, none] [] 41 σ
  refine zr_aload_n (pc := 0) hV dX12_findPrices_0 rfl rfl ?_
  refine zr_callVp (pc := 1) hV [] (st := []) (c_X12_leastMove (σ := σ) hσ ) dX12_findPrices_1 mX12_434 rfl (by decide) (by decide) (Nat.le_of_ble_eq_true rfl) (Nat.le_refl _) (fun r1 hr1 pr1 => ?_)
  have t1 := zx_g3 hσ
  refine zr_istore_n (pc := 4) hV [some (ZR 0), some (ZI r1), none, none, none] dX12_findPrices_4 rfl (by decide) rfl rfl ?_
  refine zr_iconst (pc := 5) hV 0 dX12_findPrices_5 rfl ?_
  refine zr_istore_n (pc := 6) hV [some (ZR 0), some (ZI r1), some (ZI 0), none, none] dX12_findPrices_6 rfl (by decide) rfl rfl ?_
  have L7 : ∀ (fuel : Nat) (x2_7 : Int) (σ_7 : zq_S), (0 ≤ x2_7 ∧ x2_7 ≤ 39) → (zx_T σ_7) → (∀ a i : Int, (a ≠ 31 ∧ a ≠ 32) → σ_7 a i = σ a i) → (zx_PR σ_7 r1 x2_7) → (x2_7 ≤ σ_7 0 37) → (zq_hid (∀ j, 0 ≤ j → j < x2_7 → σ_7 31 j = (zp_pr σ r1 x2_7 j).1 ∧ σ_7 32 j = (zp_pr σ r1 x2_7 j).2)) → 39 - x2_7 < (fuel : Int) → V 7 [some (ZR 0), some (ZI r1), some (ZI x2_7), none, none] [] 41 σ_7 := by
    intro fuel
    induction fuel with
    | zero =>
      intro x2_7 σ_7 hx2_7 hσ_7 hFσ_7 hi7_0 hi7_1 hi7_2 hm7
      exfalso; omega
    | succ fuel ih =>
      intro x2_7 σ_7 hx2_7 hσ_7 hFσ_7 hi7_0 hi7_1 hi7_2 hm7
      have ih7 := ih
      show V 7 [some (ZR 0), some (ZI r1), some (ZI x2_7), none, none] [] 41 σ_7
      refine zr_iload_n (pc := 7) hV dX12_findPrices_7 rfl rfl ?_
      refine zr_aload_n (pc := 8) hV dX12_findPrices_8 rfl rfl ?_
      refine zr_getI (pc := 9) hV 37 dX12_findPrices_9 fX12_422 rfl rfl rfl (by decide) ?_
      have t2 := zx_g37 hσ_7
      have t3 : σ_7 0 37 = σ 0 37 := hFσ_7 _ _ (by omega)
      refine zr_icmp_ge (pc := 12) hV 122 dX12_findPrices_12 (by decide) (by omega) (by omega) (fun c4 => ?_) (fun c4 => ?_)
      · show V 122 [some (ZR 0), some (ZI r1), some (ZI x2_7), none, none] [] 41 σ_7
        refine zr_aload_n (pc := 122) hV dX12_findPrices_122 rfl rfl ?_
        refine zr_getR (pc := 123) hV 38 21 dX12_findPrices_123 fX12_87 rfl rfl rfl (by decide) (zx_g38 hσ_7) (by omega) ?_
        refine zr_aload_n (pc := 126) hV dX12_findPrices_126 rfl rfl ?_
        refine zr_getI (pc := 127) hV 37 dX12_findPrices_127 fX12_422 rfl rfl rfl (by decide) ?_
        have t5 := zx_g37 hσ_7
        have t6 : σ_7 0 37 = σ 0 37 := hFσ_7 _ _ (by omega)
        refine zr_iconst (pc := 130) hV 1 dX12_findPrices_130 rfl ?_
        refine zr_isub (pc := 131) hV dX12_findPrices_131 ?_
        refine zr_iald (pc := 132) hV dX12_findPrices_132 rfl (by decide) rfl (by omega) ?_
        have t7 := zx_ga21 hσ_7 ((σ_7 0 37) - 1)
        have t8 : σ_7 21 ((σ_7 0 37) - 1) = σ 21 ((σ_7 0 37) - 1) := hFσ_7 _ _ (by omega)
        refine zr_if_ne (pc := 133) hV 163 dX12_findPrices_133 (by decide) (by omega) (fun c9 => ?_) (fun c9 => ?_)
        · show V 163 [some (ZR 0), some (ZI r1), some (ZI x2_7), none, none] [] 41 σ_7
          refine zr_aload_n (pc := 163) hV dX12_findPrices_163 rfl rfl ?_
          refine zr_getR (pc := 164) hV 51 31 dX12_findPrices_164 fX12_117 rfl rfl rfl (by decide) (zx_g51 hσ_7) (by omega) ?_
          refine zr_aload_n (pc := 167) hV dX12_findPrices_167 rfl rfl ?_
          refine zr_getI (pc := 168) hV 37 dX12_findPrices_168 fX12_422 rfl rfl rfl (by decide) ?_
          have t10 := zx_g37 hσ_7
          have t11 : σ_7 0 37 = σ 0 37 := hFσ_7 _ _ (by omega)
          refine zr_iconst (pc := 171) hV 1 dX12_findPrices_171 rfl ?_
          refine zr_isub (pc := 172) hV dX12_findPrices_172 ?_
          refine zr_iald (pc := 173) hV dX12_findPrices_173 rfl (by decide) rfl (by omega) ?_
          have t12 := zx_ga31 hσ_7 ((σ_7 0 37) - 1)
          exact zr_iret (pc := 174) hV dX12_findPrices_174 rfl rfl ⟨_, rfl, (by omega), hσ_7, hFσ_7, trivial, (show (0 ≤ (σ_7 31 ((σ_7 0 37) - 1)) → zx_FP σ_7) ∧ (σ_7 31 ((σ_7 0 37) - 1)) = zp_q σ from ⟨(fun h => ⟨fun h2 => absurd h2 (by omega), fun _ => ⟨h, by rw [zx_ps_lm (fun a i h1 h2 => hFσ_7 a i ⟨h1, h2⟩), hFσ_7 0 3 (by omega), ← pr1.2.2.2, show σ_7 0 37 = x2_7 by omega]; exact hi7_0⟩⟩), (by have r37 : σ_7 0 37 = σ 0 37 := hFσ_7 0 37 (by omega); have k21 : σ 21 (σ 0 37 - 1) = σ 21 (σ_7 0 37 - 1) := (by rw [r37]); unfold zp_q; rw [if_neg (by omega), ← pr1.2.2.2]; have y := (hi7_2 (σ 0 37 - 1) (by omega) (by omega)).1; rw [show σ_7 0 37 = σ 0 37 by omega, y, show x2_7 = σ 0 37 by omega])⟩)⟩
        · show V 136 [some (ZR 0), some (ZI r1), some (ZI x2_7), none, none] [] 41 σ_7
          refine zr_aload_n (pc := 136) hV dX12_findPrices_136 rfl rfl ?_
          refine zr_getR (pc := 137) hV 52 32 dX12_findPrices_137 fX12_120 rfl rfl rfl (by decide) (zx_g52 hσ_7) (by omega) ?_
          refine zr_aload_n (pc := 140) hV dX12_findPrices_140 rfl rfl ?_
          refine zr_getI (pc := 141) hV 37 dX12_findPrices_141 fX12_422 rfl rfl rfl (by decide) ?_
          have t13 := zx_g37 hσ_7
          have t14 : σ_7 0 37 = σ 0 37 := hFσ_7 _ _ (by omega)
          refine zr_iconst (pc := 144) hV 1 dX12_findPrices_144 rfl ?_
          refine zr_isub (pc := 145) hV dX12_findPrices_145 ?_
          refine zr_iload_n (pc := 146) hV dX12_findPrices_146 rfl rfl ?_
          refine zr_iast (pc := 147) hV dX12_findPrices_147 rfl (by decide) rfl (by omega) (fun σ147 eσ147 => ?_)
          have hσ147 : zx_T σ147 := zx_ua32 eσ147 hσ_7 (by omega)
          have hFσ147 : ∀ a i : Int, (a ≠ 31 ∧ a ≠ 32) → σ147 a i = σ a i := fun a i h => by rw [eσ147, zq_up_ne (fun q => h.2 q.1)]; exact hFσ_7 a i h
          refine zr_iload_n (pc := 148) hV dX12_findPrices_148 rfl rfl ?_
          refine zr_if_ge (pc := 149) hV 156 dX12_findPrices_149 (by decide) (by omega) (fun c15 => ?_) (fun c15 => ?_)
          · show V 156 [some (ZR 0), some (ZI r1), some (ZI x2_7), none, none] [] 41 σ147
            refine zr_aload_n (pc := 156) hV dX12_findPrices_156 rfl rfl ?_
            refine zr_getR (pc := 157) hV 10 7 dX12_findPrices_157 fX12_38 rfl rfl rfl (by decide) (zx_g10 hσ147) (by omega) ?_
            refine zr_iload_n (pc := 160) hV dX12_findPrices_160 rfl rfl ?_
            refine zr_iald (pc := 161) hV dX12_findPrices_161 rfl (by decide) rfl (by omega) ?_
            have t16 := zx_ga7 hσ147 r1
            have t17 : σ147 7 r1 = σ_7 7 r1 := by rw [eσ147]; exact zq_up_ne (by omega)
            have t18 : σ_7 7 r1 = σ 7 r1 := hFσ_7 _ _ (by omega)
            show V 162 [some (ZR 0), some (ZI r1), some (ZI x2_7), none, none] [ZI (σ147 7 r1)] 41 σ147
            exact zr_iret (pc := 162) hV dX12_findPrices_162 rfl rfl ⟨_, rfl, (by omega), hσ147, hFσ147, trivial, (show (0 ≤ (σ147 7 r1) → zx_FP σ147) ∧ (σ147 7 r1) = zp_q σ from ⟨(fun _ => ⟨fun _ => by rw [show σ147 0 37 = σ_7 0 37 by rw [eσ147, zq_up_ne (by omega)], show σ147 32 (σ_7 0 37 - 1) = r1 by rw [eσ147, zq_up_same], show σ147 0 3 = σ_7 0 3 by rw [eσ147, zq_up_ne (by omega)], hFσ_7 0 3 (by omega)]; omega, fun h => absurd (by rw [eσ147, zq_up_ne (by omega), zq_up_ne (by omega)]; omega) h⟩), (by have r37 : σ_7 0 37 = σ 0 37 := hFσ_7 0 37 (by omega); have k21 : σ 21 (σ 0 37 - 1) = σ 21 (σ_7 0 37 - 1) := (by rw [r37]); unfold zp_q; rw [if_pos (by omega), if_neg (by omega), ← pr1.2.2.2, eσ147, zq_up_ne (by omega)]; exact hFσ_7 7 r1 (by omega))⟩)⟩
          · show V 152 [some (ZR 0), some (ZI r1), some (ZI x2_7), none, none] [] 41 σ147
            refine zr_iconst (pc := 152) hV (-1) dX12_findPrices_152 rfl ?_
            refine zr_goto (pc := 153) hV 162 dX12_findPrices_153 (by decide) ?_
            show V 162 [some (ZR 0), some (ZI r1), some (ZI x2_7), none, none] [ZI (-1)] 41 σ147
            exact zr_iret (pc := 162) hV dX12_findPrices_162 rfl rfl ⟨_, rfl, ⟨by decide, by decide⟩, hσ147, hFσ147, trivial, (show (0 ≤ ((-1) : Int) → zx_FP σ147) ∧ ((-1) : Int) = zp_q σ from ⟨(fun h => absurd h (by decide)), (by have r37 : σ_7 0 37 = σ 0 37 := hFσ_7 0 37 (by omega); have k21 : σ 21 (σ 0 37 - 1) = σ 21 (σ_7 0 37 - 1) := (by rw [r37]); unfold zp_q; rw [if_pos (by omega), if_pos (by omega)])⟩)⟩
      · show V 15 [some (ZR 0), some (ZI r1), some (ZI x2_7), none, none] [] 41 σ_7
        have l7 : zx_Lt σ_7 := zx_Lt_fr (fun a i h1 h2 => hFσ_7 a i ⟨h1, h2⟩) q1
        have f21 : σ_7 21 x2_7 = σ 21 x2_7 := hFσ_7 21 x2_7 (by omega)
        refine zr_aload_n (pc := 15) hV dX12_findPrices_15 rfl rfl ?_
        refine zr_getR (pc := 16) hV 51 31 dX12_findPrices_16 fX12_117 rfl rfl rfl (by decide) (zx_g51 hσ_7) (by omega) ?_
        refine zr_iload_n (pc := 19) hV dX12_findPrices_19 rfl rfl ?_
        refine zr_aload_n (pc := 20) hV dX12_findPrices_20 rfl rfl ?_
        refine zr_getR (pc := 21) hV 38 21 dX12_findPrices_21 fX12_87 rfl rfl rfl (by decide) (zx_g38 hσ_7) (by omega) ?_
        refine zr_iload_n (pc := 24) hV dX12_findPrices_24 rfl rfl ?_
        refine zr_iald (pc := 25) hV dX12_findPrices_25 rfl (by decide) rfl (by omega) ?_
        have t19 := zx_ga21 hσ_7 x2_7
        have t20 : σ_7 21 x2_7 = σ 21 x2_7 := hFσ_7 _ _ (by omega)
        have J34 : ∀ (v0_34 : Int), ((-1) ≤ v0_34 ∧ v0_34 ≤ 0) → ((v0_34 = 0 ∧ σ_7 21 x2_7 = 0) ∨ (v0_34 = -1 ∧ σ_7 21 x2_7 ≠ 0)) → V 34 [some (ZR 0), some (ZI r1), some (ZI x2_7), none, none] [ZI v0_34, ZI x2_7, ZR 31] 41 σ_7 := by
          intro v0_34 hv0_34 hi34_0
          show V 34 [some (ZR 0), some (ZI r1), some (ZI x2_7), none, none] [ZI v0_34, ZI x2_7, ZR 31] 41 σ_7
          refine zr_iast (pc := 34) hV dX12_findPrices_34 rfl (by decide) rfl (by omega) (fun σ34 eσ34 => ?_)
          have hσ34 : zx_T σ34 := zx_ua31 eσ34 hσ_7 (by omega)
          have hFσ34 : ∀ a i : Int, (a ≠ 31 ∧ a ≠ 32) → σ34 a i = σ a i := fun a i h => by rw [eσ34, zq_up_ne (fun q => h.1 q.1)]; exact hFσ_7 a i h
          refine zr_aload_n (pc := 35) hV dX12_findPrices_35 rfl rfl ?_
          refine zr_getR (pc := 36) hV 52 32 dX12_findPrices_36 fX12_120 rfl rfl rfl (by decide) (zx_g52 hσ34) (by omega) ?_
          refine zr_iload_n (pc := 39) hV dX12_findPrices_39 rfl rfl ?_
          refine zr_iconst (pc := 40) hV (-1) dX12_findPrices_40 rfl ?_
          refine zr_iast (pc := 41) hV dX12_findPrices_41 rfl (by decide) rfl (by omega) (fun σ41 eσ41 => ?_)
          have hσ41 : zx_T σ41 := zx_ua32 eσ41 hσ34 (by omega)
          have hFσ41 : ∀ a i : Int, (a ≠ 31 ∧ a ≠ 32) → σ41 a i = σ a i := fun a i h => by rw [eσ41, zq_up_ne (fun q => h.2 q.1)]; exact hFσ34 a i h
          have e1 : σ41 31 x2_7 = v0_34 := by rw [eσ41, zq_up_ne (by omega), eσ34, zq_up_same]
          have e2 : σ41 21 x2_7 = σ_7 21 x2_7 := by rw [eσ41, zq_up_ne (by omega), eσ34, zq_up_ne (by omega)]
          have g41 : zx_PR σ41 r1 (x2_7 + 1) := zx_PR_w (σ := σ_7) hσ_7 l7 (by omega) (fun a i h1 h2 => by rw [eσ41, zq_up_ne (by omega), eσ34, zq_up_ne (by omega)]) (fun i h => by rw [eσ41, zq_up_ne (by omega), eσ34, zq_up_ne (by omega)]) (fun i h => by rw [eσ41, zq_up_ne (by omega), eσ34, zq_up_ne (by omega)]) hi7_0 (fun h1 h2 => by exfalso; omega)
          refine zr_iconst (pc := 42) hV 0 dX12_findPrices_42 rfl ?_
          refine zr_istore_n (pc := 43) hV [some (ZR 0), some (ZI r1), some (ZI x2_7), some (ZI 0), none] dX12_findPrices_43 rfl (by decide) rfl rfl ?_
          have L44 : ∀ (fuel : Nat) (x3_44 : Int) (σ_44 : zq_S), (0 ≤ x3_44 ∧ x3_44 ≤ 20) → (zx_T σ_44) → (∀ a i : Int, (a ≠ 31 ∧ a ≠ 32) → σ_44 a i = σ a i) → (zx_PR σ_44 r1 (x2_7 + 1)) → (zq_hid (∀ j, 0 ≤ j → j < x2_7 → σ_44 31 j = (zp_pr σ r1 x2_7 j).1 ∧ σ_44 32 j = (zp_pr σ r1 x2_7 j).2)) → (zq_hid ((σ 21 x2_7 = 0 → σ_44 31 x2_7 = 0 ∧ σ_44 32 x2_7 = -1) ∧ (¬ σ 21 x2_7 = 0 → σ_44 31 x2_7 = (zp_b (zp_k σ r1 x2_7) x3_44).1 ∧ σ_44 32 x2_7 = (zp_b (zp_k σ r1 x2_7) x3_44).2))) → (x3_44 ≤ σ 0 3) → 20 - x3_44 < (fuel : Int) → V 44 [some (ZR 0), some (ZI r1), some (ZI x2_7), some (ZI x3_44), none] [] 41 σ_44 := by
            intro fuel
            induction fuel with
            | zero =>
              intro x3_44 σ_44 hx3_44 hσ_44 hFσ_44 hi44_0 hi44_1 hi44_2 hi44_3 hm44
              exfalso; omega
            | succ fuel ih =>
              intro x3_44 σ_44 hx3_44 hσ_44 hFσ_44 hi44_0 hi44_1 hi44_2 hi44_3 hm44
              have ih44 := ih
              show V 44 [some (ZR 0), some (ZI r1), some (ZI x2_7), some (ZI x3_44), none] [] 41 σ_44
              refine zr_iload_n (pc := 44) hV dX12_findPrices_44 rfl rfl ?_
              refine zr_aload_n (pc := 45) hV dX12_findPrices_45 rfl rfl ?_
              refine zr_getI (pc := 46) hV 3 dX12_findPrices_46 fX12_150 rfl rfl rfl (by decide) ?_
              have t21 := zx_g3 hσ_44
              have t22 : σ_44 0 3 = σ 0 3 := hFσ_44 _ _ (by omega)
              refine zr_icmp_ge (pc := 49) hV 116 dX12_findPrices_49 (by decide) (by omega) (by omega) (fun c23 => ?_) (fun c23 => ?_)
              · show V 116 [some (ZR 0), some (ZI r1), some (ZI x2_7), some (ZI x3_44), none] [] 41 σ_44
                refine zr_iinc (pc := 116) hV [some (ZR 0), some (ZI r1), some (ZI (x2_7 + 1)), some (ZI x3_44), none] (x2_7 + 1) dX12_findPrices_116 rfl rfl (by decide) rfl rfl ?_
                refine zr_goto (pc := 119) hV 7 dX12_findPrices_119 (by decide) ?_
                have t24 := zx_g37 hσ_44
                have t25 : σ_44 0 37 = σ 0 37 := hFσ_44 _ _ (by omega)
                refine zr_sub (pc := 7) hV [some (ZR 0), some (ZI r1), some (ZI (x2_7 + 1)), none, none] (⟨rfl, rfl, rfl, trivial⟩) ?_
                exact ih7 (x2_7 + 1) σ_44 (by omega) hσ_44 hFσ_44 hi44_0 (by omega) (fun j h1 h2 => if hc : j = x2_7 then (if hv : σ 21 x2_7 = 0 then (by rw [hc, zp_pr_v (by omega) hv]; exact hi44_2.1 hv) else (by rw [hc, zp_pr_w (by omega) hv, show σ 0 3 = x3_44 by omega]; exact hi44_2.2 hv)) else (by rw [zp_pr_o (by omega) hc]; exact hi44_1 j h1 (by omega))) (by omega)
              · show V 52 [some (ZR 0), some (ZI r1), some (ZI x2_7), some (ZI x3_44), none] [] 41 σ_44
                refine zr_aload_n (pc := 52) hV dX12_findPrices_52 rfl rfl ?_
                refine zr_getR (pc := 53) hV 38 21 dX12_findPrices_53 fX12_87 rfl rfl rfl (by decide) (zx_g38 hσ_44) (by omega) ?_
                refine zr_iload_n (pc := 56) hV dX12_findPrices_56 rfl rfl ?_
                refine zr_iald (pc := 57) hV dX12_findPrices_57 rfl (by decide) rfl (by omega) ?_
                have t26 := zx_ga21 hσ_44 x2_7
                have t27 : σ_44 21 x2_7 = σ 21 x2_7 := hFσ_44 _ _ (by omega)
                refine zr_if_le (pc := 58) hV 116 dX12_findPrices_58 (by decide) (by omega) (fun c28 => ?_) (fun c28 => ?_)
                · show V 116 [some (ZR 0), some (ZI r1), some (ZI x2_7), some (ZI x3_44), none] [] 41 σ_44
                  refine zr_iinc (pc := 116) hV [some (ZR 0), some (ZI r1), some (ZI (x2_7 + 1)), some (ZI x3_44), none] (x2_7 + 1) dX12_findPrices_116 rfl rfl (by decide) rfl rfl ?_
                  refine zr_goto (pc := 119) hV 7 dX12_findPrices_119 (by decide) ?_
                  have t29 := zx_g37 hσ_44
                  have t30 : σ_44 0 37 = σ 0 37 := hFσ_44 _ _ (by omega)
                  refine zr_sub (pc := 7) hV [some (ZR 0), some (ZI r1), some (ZI (x2_7 + 1)), none, none] (⟨rfl, rfl, rfl, trivial⟩) ?_
                  exact ih7 (x2_7 + 1) σ_44 (by omega) hσ_44 hFσ_44 hi44_0 (by omega) (fun j h1 h2 => if hc : j = x2_7 then (if hv : σ 21 x2_7 = 0 then (by rw [hc, zp_pr_v (by omega) hv]; exact hi44_2.1 hv) else (by rw [hc, zp_pr_w (by omega) hv, show σ 0 3 = x3_44 by omega]; exact hi44_2.2 hv)) else (by rw [zp_pr_o (by omega) hc]; exact hi44_1 j h1 (by omega))) (by omega)
                · show V 61 [some (ZR 0), some (ZI r1), some (ZI x2_7), some (ZI x3_44), none] [] 41 σ_44
                  have f44 : ∀ a, 21 ≤ a → a ≤ 24 → σ_44 a x2_7 = σ a x2_7 := fun a h1 h2 => hFσ_44 a x2_7 (by omega)
                  have g44 := f44 21 (by omega) (by omega)
                  have bd : ∀ j, 0 ≤ j → j < x2_7 → -1 ≤ (zp_pr σ r1 x2_7 j).1 ∧ (zp_pr σ r1 x2_7 j).1 ≤ 80000 := fun j j0 j1 => (by obtain ⟨f, hf⟩ := q2; have z := zp_pr_bd (mv := r1) hf (fun o => zx_ga7 hσ o) (fun i => zx_ga21 hσ i) x2_7.toNat (by omega) j j0 (by omega); have t := (hf j j0 (by omega)).1; rw [show ((x2_7.toNat : Nat) : Int) = x2_7 by omega] at z; exact (show -1 ≤ (zp_pr σ r1 x2_7 j).1 ∧ (zp_pr σ r1 x2_7 j).1 ≤ 80000 by omega))
                  have pb61 : ∀ j, 0 ≤ j → j < x2_7 → -1 ≤ σ_44 31 j ∧ σ_44 31 j ≤ 80000 := fun j j0 j1 => by rw [(hi44_1 j j0 j1).1]; exact bd j j0 j1
                  have lt61 : σ_44 21 x2_7 = 2 → 0 ≤ σ_44 23 x2_7 ∧ σ_44 23 x2_7 < x2_7 ∧ 0 ≤ σ_44 24 x2_7 ∧ σ_44 24 x2_7 < x2_7 := fun h => by rw [f44 23 (by omega) (by omega), f44 24 (by omega) (by omega)]; exact q1 x2_7 (by omega) (by omega) (by omega)
                  refine zr_aload_n (pc := 61) hV dX12_findPrices_61 rfl rfl ?_
                  refine zr_iload_n (pc := 62) hV dX12_findPrices_62 rfl rfl ?_
                  refine zr_iload_n (pc := 63) hV dX12_findPrices_63 rfl rfl ?_
                  refine zr_iload_n (pc := 64) hV dX12_findPrices_64 rfl rfl ?_
                  refine zr_callVp (pc := 65) hV [ZI x3_44, ZI x2_7, ZI r1] (st := []) (c_X12_costBy2 (σ := σ_44) hσ_44 x3_44 x2_7 r1 (by omega) (by omega) (by omega) pb61 lt61 (by omega)) dX12_findPrices_65 mX12_437 rfl (by decide) (by decide) (Nat.le_of_ble_eq_true rfl) (Nat.le_refl _) (fun r65 hr65 pr65 => ?_)
                  have zc65 : r65 = zp_k σ r1 x2_7 x3_44 := pr65.2.2.trans ((zp_c_fr (fun i => hFσ_44 2 i (by omega)) (fun i => hFσ_44 3 i (by omega)) (fun i => hFσ_44 5 i (by omega)) (fun i => hFσ_44 6 i (by omega)) (fun i => hFσ_44 7 i (by omega)) (hFσ_44 0 2 (by omega)) (fun i => hFσ_44 21 i (by omega)) (fun i => hFσ_44 22 i (by omega)) (fun i => hFσ_44 23 i (by omega)) (fun i => hFσ_44 24 i (by omega))).trans (zp_c_p (fun h => (hi44_1 _ (q1 x2_7 (by omega) (by omega) (by omega)).1 (q1 x2_7 (by omega) (by omega) (by omega)).2.1).1) (fun h => (hi44_1 _ (q1 x2_7 (by omega) (by omega) (by omega)).2.2.1 (q1 x2_7 (by omega) (by omega) (by omega)).2.2.2).1)))
                  refine zr_istore (pc := 68) hV [some (ZR 0), some (ZI r1), some (ZI x2_7), some (ZI x3_44), some (ZI r65)] dX12_findPrices_68 (by decide) rfl rfl ?_
                  refine zr_iload (pc := 70) hV dX12_findPrices_70 rfl ?_
                  refine zr_if_lt (pc := 72) hV 110 dX12_findPrices_72 (by decide) (by omega) (fun c31 => ?_) (fun c31 => ?_)
                  · show V 110 [some (ZR 0), some (ZI r1), some (ZI x2_7), some (ZI x3_44), some (ZI r65)] [] 41 σ_44
                    refine zr_iinc (pc := 110) hV [some (ZR 0), some (ZI r1), some (ZI x2_7), some (ZI (x3_44 + 1)), some (ZI r65)] (x3_44 + 1) dX12_findPrices_110 rfl rfl (by decide) rfl rfl ?_
                    refine zr_goto (pc := 113) hV 44 dX12_findPrices_113 (by decide) ?_
                    refine zr_sub (pc := 44) hV [some (ZR 0), some (ZI r1), some (ZI x2_7), some (ZI (x3_44 + 1)), none] (⟨rfl, rfl, rfl, rfl, trivial⟩) ?_
                    exact ih44 (x3_44 + 1) σ_44 (by omega) hσ_44 hFσ_44 hi44_0 hi44_1 ⟨hi44_2.1, fun h => by first | exact absurd h (by omega) | (have y := hi44_2.2 h; rw [zp_b_n (k := x3_44) (by omega) (by rw [← zc65]; omega)]; exact y)⟩ (by omega) (by omega)
                  · show V 75 [some (ZR 0), some (ZI r1), some (ZI x2_7), some (ZI x3_44), some (ZI r65)] [] 41 σ_44
                    refine zr_aload_n (pc := 75) hV dX12_findPrices_75 rfl rfl ?_
                    refine zr_getR (pc := 76) hV 51 31 dX12_findPrices_76 fX12_117 rfl rfl rfl (by decide) (zx_g51 hσ_44) (by omega) ?_
                    refine zr_iload_n (pc := 79) hV dX12_findPrices_79 rfl rfl ?_
                    refine zr_iald (pc := 80) hV dX12_findPrices_80 rfl (by decide) rfl (by omega) ?_
                    have t32 := zx_ga31 hσ_44 x2_7
                    refine zr_if_lt (pc := 81) hV 95 dX12_findPrices_81 (by decide) (by omega) (fun c33 => ?_) (fun c33 => ?_)
                    · show V 95 [some (ZR 0), some (ZI r1), some (ZI x2_7), some (ZI x3_44), some (ZI r65)] [] 41 σ_44
                      refine zr_aload_n (pc := 95) hV dX12_findPrices_95 rfl rfl ?_
                      refine zr_getR (pc := 96) hV 51 31 dX12_findPrices_96 fX12_117 rfl rfl rfl (by decide) (zx_g51 hσ_44) (by omega) ?_
                      refine zr_iload_n (pc := 99) hV dX12_findPrices_99 rfl rfl ?_
                      refine zr_iload (pc := 100) hV dX12_findPrices_100 rfl ?_
                      refine zr_iast (pc := 102) hV dX12_findPrices_102 rfl (by decide) rfl (by omega) (fun σ102 eσ102 => ?_)
                      have hσ102 : zx_T σ102 := zx_ua31 eσ102 hσ_44 (by omega)
                      have hFσ102 : ∀ a i : Int, (a ≠ 31 ∧ a ≠ 32) → σ102 a i = σ a i := fun a i h => by rw [eσ102, zq_up_ne (fun q => h.1 q.1)]; exact hFσ_44 a i h
                      refine zr_aload_n (pc := 103) hV dX12_findPrices_103 rfl rfl ?_
                      refine zr_getR (pc := 104) hV 52 32 dX12_findPrices_104 fX12_120 rfl rfl rfl (by decide) (zx_g52 hσ102) (by omega) ?_
                      refine zr_iload_n (pc := 107) hV dX12_findPrices_107 rfl rfl ?_
                      refine zr_iload_n (pc := 108) hV dX12_findPrices_108 rfl rfl ?_
                      refine zr_iast (pc := 109) hV dX12_findPrices_109 rfl (by decide) rfl (by omega) (fun σ109 eσ109 => ?_)
                      have hσ109 : zx_T σ109 := zx_ua32 eσ109 hσ102 (by omega)
                      have hFσ109 : ∀ a i : Int, (a ≠ 31 ∧ a ≠ 32) → σ109 a i = σ a i := fun a i h => by rw [eσ109, zq_up_ne (fun q => h.2 q.1)]; exact hFσ102 a i h
                      show V 110 [some (ZR 0), some (ZI r1), some (ZI x2_7), some (ZI x3_44), some (ZI r65)] [] 41 σ109
                      have l44 : zx_Lt σ_44 := zx_Lt_fr (fun a i h1 h2 => hFσ_44 a i ⟨h1, h2⟩) q1
                      have w44 := hFσ_44 0 37 (by omega)
                      have g109 : zx_PR σ109 r1 (x2_7 + 1) := zx_PR_w (σ := σ_44) hσ_44 l44 (by omega) (fun a i h1 h2 => by rw [eσ109, zq_up_ne (by omega), eσ102, zq_up_ne (by omega)]) (fun i h => by rw [eσ109, zq_up_ne (by omega), eσ102, zq_up_ne (by omega)]) (fun i h => by rw [eσ109, zq_up_ne (by omega), eσ102, zq_up_ne (by omega)]) (fun j h1 h2 => hi44_0 j h1 (by omega)) (zx_P1_new (σ := σ_44) (o := x3_44) hσ_44 l44 (by omega) (fun a i h1 h2 => by rw [eσ109, zq_up_ne (by omega), eσ102, zq_up_ne (by omega)]) (fun i h => by rw [eσ109, zq_up_ne (by omega), eσ102, zq_up_ne (by omega)]) (by rw [eσ109, zq_up_same]) (by omega) (by omega) (pr65.2.1 (by omega)))
                      refine zr_iinc (pc := 110) hV [some (ZR 0), some (ZI r1), some (ZI x2_7), some (ZI (x3_44 + 1)), some (ZI r65)] (x3_44 + 1) dX12_findPrices_110 rfl rfl (by decide) rfl rfl ?_
                      refine zr_goto (pc := 113) hV 44 dX12_findPrices_113 (by decide) ?_
                      refine zr_sub (pc := 44) hV [some (ZR 0), some (ZI r1), some (ZI x2_7), some (ZI (x3_44 + 1)), none] (⟨rfl, rfl, rfl, rfl, trivial⟩) ?_
                      exact ih44 (x3_44 + 1) σ109 (by omega) hσ109 hFσ109 g109 (fun j h1 h2 => ⟨by rw [eσ109, zq_up_ne (by omega), eσ102, zq_up_ne (by omega)]; exact (hi44_1 j h1 h2).1, by rw [eσ109, zq_up_ne (by omega), eσ102, zq_up_ne (by omega)]; exact (hi44_1 j h1 h2).2⟩) ⟨fun h => absurd h (by omega), fun h => (by have y := hi44_2.2 h; rw [zp_b_y (k := x3_44) (by omega) (by rw [← zc65]; omega)]; exact ⟨by rw [eσ109, zq_up_ne (by omega), eσ102, zq_up_same]; exact zc65, by rw [eσ109, zq_up_same]⟩)⟩ (by omega) (by omega)
                    · show V 84 [some (ZR 0), some (ZI r1), some (ZI x2_7), some (ZI x3_44), some (ZI r65)] [] 41 σ_44
                      refine zr_iload (pc := 84) hV dX12_findPrices_84 rfl ?_
                      refine zr_aload_n (pc := 86) hV dX12_findPrices_86 rfl rfl ?_
                      refine zr_getR (pc := 87) hV 51 31 dX12_findPrices_87 fX12_117 rfl rfl rfl (by decide) (zx_g51 hσ_44) (by omega) ?_
                      refine zr_iload_n (pc := 90) hV dX12_findPrices_90 rfl rfl ?_
                      refine zr_iald (pc := 91) hV dX12_findPrices_91 rfl (by decide) rfl (by omega) ?_
                      have t34 := zx_ga31 hσ_44 x2_7
                      refine zr_icmp_ge (pc := 92) hV 110 dX12_findPrices_92 (by decide) (by omega) (by omega) (fun c35 => ?_) (fun c35 => ?_)
                      · show V 110 [some (ZR 0), some (ZI r1), some (ZI x2_7), some (ZI x3_44), some (ZI r65)] [] 41 σ_44
                        refine zr_iinc (pc := 110) hV [some (ZR 0), some (ZI r1), some (ZI x2_7), some (ZI (x3_44 + 1)), some (ZI r65)] (x3_44 + 1) dX12_findPrices_110 rfl rfl (by decide) rfl rfl ?_
                        refine zr_goto (pc := 113) hV 44 dX12_findPrices_113 (by decide) ?_
                        refine zr_sub (pc := 44) hV [some (ZR 0), some (ZI r1), some (ZI x2_7), some (ZI (x3_44 + 1)), none] (⟨rfl, rfl, rfl, rfl, trivial⟩) ?_
                        exact ih44 (x3_44 + 1) σ_44 (by omega) hσ_44 hFσ_44 hi44_0 hi44_1 ⟨hi44_2.1, fun h => by first | exact absurd h (by omega) | (have y := hi44_2.2 h; rw [zp_b_n (k := x3_44) (by omega) (by rw [← zc65]; omega)]; exact y)⟩ (by omega) (by omega)
                      · show V 95 [some (ZR 0), some (ZI r1), some (ZI x2_7), some (ZI x3_44), some (ZI r65)] [] 41 σ_44
                        refine zr_aload_n (pc := 95) hV dX12_findPrices_95 rfl rfl ?_
                        refine zr_getR (pc := 96) hV 51 31 dX12_findPrices_96 fX12_117 rfl rfl rfl (by decide) (zx_g51 hσ_44) (by omega) ?_
                        refine zr_iload_n (pc := 99) hV dX12_findPrices_99 rfl rfl ?_
                        refine zr_iload (pc := 100) hV dX12_findPrices_100 rfl ?_
                        refine zr_iast (pc := 102) hV dX12_findPrices_102 rfl (by decide) rfl (by omega) (fun σ102 eσ102 => ?_)
                        have hσ102 : zx_T σ102 := zx_ua31 eσ102 hσ_44 (by omega)
                        have hFσ102 : ∀ a i : Int, (a ≠ 31 ∧ a ≠ 32) → σ102 a i = σ a i := fun a i h => by rw [eσ102, zq_up_ne (fun q => h.1 q.1)]; exact hFσ_44 a i h
                        refine zr_aload_n (pc := 103) hV dX12_findPrices_103 rfl rfl ?_
                        refine zr_getR (pc := 104) hV 52 32 dX12_findPrices_104 fX12_120 rfl rfl rfl (by decide) (zx_g52 hσ102) (by omega) ?_
                        refine zr_iload_n (pc := 107) hV dX12_findPrices_107 rfl rfl ?_
                        refine zr_iload_n (pc := 108) hV dX12_findPrices_108 rfl rfl ?_
                        refine zr_iast (pc := 109) hV dX12_findPrices_109 rfl (by decide) rfl (by omega) (fun σ109 eσ109 => ?_)
                        have hσ109 : zx_T σ109 := zx_ua32 eσ109 hσ102 (by omega)
                        have hFσ109 : ∀ a i : Int, (a ≠ 31 ∧ a ≠ 32) → σ109 a i = σ a i := fun a i h => by rw [eσ109, zq_up_ne (fun q => h.2 q.1)]; exact hFσ102 a i h
                        show V 110 [some (ZR 0), some (ZI r1), some (ZI x2_7), some (ZI x3_44), some (ZI r65)] [] 41 σ109
                        have l44 : zx_Lt σ_44 := zx_Lt_fr (fun a i h1 h2 => hFσ_44 a i ⟨h1, h2⟩) q1
                        have w44 := hFσ_44 0 37 (by omega)
                        have g109 : zx_PR σ109 r1 (x2_7 + 1) := zx_PR_w (σ := σ_44) hσ_44 l44 (by omega) (fun a i h1 h2 => by rw [eσ109, zq_up_ne (by omega), eσ102, zq_up_ne (by omega)]) (fun i h => by rw [eσ109, zq_up_ne (by omega), eσ102, zq_up_ne (by omega)]) (fun i h => by rw [eσ109, zq_up_ne (by omega), eσ102, zq_up_ne (by omega)]) (fun j h1 h2 => hi44_0 j h1 (by omega)) (zx_P1_new (σ := σ_44) (o := x3_44) hσ_44 l44 (by omega) (fun a i h1 h2 => by rw [eσ109, zq_up_ne (by omega), eσ102, zq_up_ne (by omega)]) (fun i h => by rw [eσ109, zq_up_ne (by omega), eσ102, zq_up_ne (by omega)]) (by rw [eσ109, zq_up_same]) (by omega) (by omega) (pr65.2.1 (by omega)))
                        refine zr_iinc (pc := 110) hV [some (ZR 0), some (ZI r1), some (ZI x2_7), some (ZI (x3_44 + 1)), some (ZI r65)] (x3_44 + 1) dX12_findPrices_110 rfl rfl (by decide) rfl rfl ?_
                        refine zr_goto (pc := 113) hV 44 dX12_findPrices_113 (by decide) ?_
                        refine zr_sub (pc := 44) hV [some (ZR 0), some (ZI r1), some (ZI x2_7), some (ZI (x3_44 + 1)), none] (⟨rfl, rfl, rfl, rfl, trivial⟩) ?_
                        exact ih44 (x3_44 + 1) σ109 (by omega) hσ109 hFσ109 g109 (fun j h1 h2 => ⟨by rw [eσ109, zq_up_ne (by omega), eσ102, zq_up_ne (by omega)]; exact (hi44_1 j h1 h2).1, by rw [eσ109, zq_up_ne (by omega), eσ102, zq_up_ne (by omega)]; exact (hi44_1 j h1 h2).2⟩) ⟨fun h => absurd h (by omega), fun h => (by have y := hi44_2.2 h; rw [zp_b_y (k := x3_44) (by omega) (by rw [← zc65]; omega)]; exact ⟨by rw [eσ109, zq_up_ne (by omega), eσ102, zq_up_same]; exact zc65, by rw [eσ109, zq_up_same]⟩)⟩ (by omega) (by omega)
          exact L44 (20 - (0 : Int) + 1 : Int).toNat 0 σ41 (by omega) hσ41 hFσ41 g41 (fun j h1 h2 => ⟨by rw [eσ41, zq_up_ne (by omega), eσ34, zq_up_ne (by omega)]; exact (hi7_2 j h1 h2).1, by rw [eσ41, zq_up_ne (by omega), eσ34, zq_up_ne (by omega)]; exact (hi7_2 j h1 h2).2⟩) ⟨fun h => ⟨by omega, by rw [eσ41, zq_up_same]⟩, fun h => ⟨by rw [zp_b_0]; show σ41 31 x2_7 = -1; omega, by rw [zp_b_0, eσ41, zq_up_same]⟩⟩ (by omega) (by omega)
        refine zr_if_ne (pc := 26) hV 33 dX12_findPrices_26 (by decide) (by omega) (fun c36 => ?_) (fun c36 => ?_)
        · show V 33 [some (ZR 0), some (ZI r1), some (ZI x2_7), none, none] [ZI x2_7, ZR 31] 41 σ_7
          refine zr_iconst (pc := 33) hV (-1) dX12_findPrices_33 rfl ?_
          exact J34 (-1) (by omega) (by omega)
        · show V 29 [some (ZR 0), some (ZI r1), some (ZI x2_7), none, none] [ZI x2_7, ZR 31] 41 σ_7
          refine zr_iconst (pc := 29) hV 0 dX12_findPrices_29 rfl ?_
          refine zr_goto (pc := 30) hV 34 dX12_findPrices_30 (by decide) ?_
          exact J34 0 (by omega) (by omega)
  have t37 := zx_g37 hσ
  exact L7 (39 - (0 : Int) + 1 : Int).toNat 0 σ (by omega) hσ (fun a i _ => rfl) (fun j h1 h2 => absurd h2 (by omega)) (by omega) (fun j h1 h2 => absurd h2 (by omega)) (by omega)
set_option maxHeartbeats 800000 in
theorem c_X12_price2 {σ : zq_S} (hσ : zx_T σ)  (Uσ : zx_U σ) : zq_C zx_w yX12_price cX12_price 2 (some .int) 6 146 41 41 [ZR 0] σ (zq_pi (fun r τ => zx_T τ ∧ (∀ a i : Int, (a ≠ 31 ∧ a ≠ 32) → τ a i = σ a i) ∧ (True) ∧ zq_hid (r = zp_A σ) ∧ zx_U τ)) := by
  refine zq_C_of (by decide) (Nat.le_refl _) (Nat.le_of_ble_eq_true rfl) [some (ZR 0), none] rfl (fun V hV => ?_)
  show V 0 [some (ZR 0), none] [] 41 σ
  refine zr_aload_n (pc := 0) hV dX12_price_0 rfl rfl ?_
  refine zr_getI (pc := 1) hV 36 dX12_price_1 fX12_160 rfl rfl rfl (by decide) ?_
  have t1 := zx_g36 hσ
  refine zr_if_ne (pc := 4) hV 10 dX12_price_4 (by decide) (by omega) (fun c2 => ?_) (fun c2 => ?_)
  · show V 10 [some (ZR 0), none] [] 41 σ
    refine zr_aload_n (pc := 10) hV dX12_price_10 rfl rfl ?_
    have u1 := (Uσ (by omega)).1
    have t3 := zx_g37 hσ
    have t4 := zx_g37 hσ
    refine zr_callVi (pc := 11) hV [] (st := []) (c_X12_findPrices2 (σ := σ) hσ (by omega) (by obtain ⟨f, hf⟩ := (Uσ (by omega)).2; exact zx_Lt_of hf) (Uσ (by omega)).2) dX12_price_11 mX12_440 rfl (by decide) (by decide) (Nat.le_of_ble_eq_true rfl) (Nat.le_refl _) (fun r11 σ11 hr11 pσ11 => ?_)
    obtain ⟨hσ11, hfσ11, pσ11, wσ11⟩ := pσ11
    have Uσ11 : zx_U σ11 := zx_U_fr (hfσ11 0 36 (by omega)) (hfσ11 0 37 (by omega)) (fun i => hfσ11 21 i (by omega)) (fun i => hfσ11 23 i (by omega)) (fun i => hfσ11 24 i (by omega)) Uσ
    have hFσ11 : ∀ a i : Int, (a ≠ 31 ∧ a ≠ 32) → σ11 a i = σ a i := fun a i h => (hfσ11 a i ⟨h.1, h.2⟩)
    refine zr_istore_n (pc := 14) hV [some (ZR 0), some (ZI r11)] dX12_price_14 rfl (by decide) rfl rfl ?_
    refine zr_iload_n (pc := 15) hV dX12_price_15 rfl rfl ?_
    refine zr_if_ge (pc := 16) hV 24 dX12_price_16 (by decide) (by omega) (fun c5 => ?_) (fun c5 => ?_)
    · show V 24 [some (ZR 0), some (ZI r11)] [] 41 σ11
      refine zr_iload_n (pc := 24) hV dX12_price_24 rfl rfl ?_
      show V 25 [some (ZR 0), some (ZI r11)] [ZI r11] 41 σ11
      exact zr_iret (pc := 25) hV dX12_price_25 rfl rfl ⟨_, rfl, (by omega), hσ11, hFσ11, trivial, (show r11 = zp_A σ from (by unfold zp_A; rw [if_pos (by omega), if_neg (by have z := wσ11.2; omega)]; exact wσ11.2)), Uσ11⟩
    · show V 19 [some (ZR 0), some (ZI r11)] [] 41 σ11
      refine zr_bipush (pc := 19) hV (-4) dX12_price_19 (by decide) ?_
      refine zr_goto (pc := 21) hV 25 dX12_price_21 (by decide) ?_
      show V 25 [some (ZR 0), some (ZI r11)] [ZI (-4)] 41 σ11
      exact zr_iret (pc := 25) hV dX12_price_25 rfl rfl ⟨_, rfl, ⟨by decide, by decide⟩, hσ11, hFσ11, trivial, (show ((-4) : Int) = zp_A σ from (by unfold zp_A; rw [if_pos (by omega), if_pos (by have z := wσ11.2; omega)])), Uσ11⟩
  · show V 7 [some (ZR 0), none] [] 41 σ
    refine zr_bipush (pc := 7) hV (-2) dX12_price_7 (by decide) ?_
    exact zr_iret (pc := 9) hV dX12_price_9 rfl rfl ⟨_, rfl, ⟨by decide, by decide⟩, hσ, (fun a i _ => rfl), trivial, (show ((-2) : Int) = zp_A σ from (by unfold zp_A; rw [if_neg (by omega)])), Uσ⟩
