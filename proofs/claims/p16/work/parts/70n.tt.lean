set_option maxHeartbeats 800000 in
theorem c_X12_write2 {σ : zq_S} (hσ : zx_T σ) (c : Int) (q0 : zq_in c) (q1 : σ 0 34 < 24) : zq_C zx_w yX12_write cX12_write 2 (none) 0 0 41 41 [ZR 0, ZI c] σ (zq_pv (fun τ => zx_T τ ∧ (∀ a i : Int, (¬ (a = 0 ∧ i = 34) ∧ a ≠ 20) → τ a i = σ a i) ∧ (τ 0 34 = σ 0 34 + 1 ∧ zu_sr τ = zu_w1 (zu_sr σ) c))) := by
  refine zq_C_of (by decide) (Nat.le_refl _) (Nat.le_of_ble_eq_true rfl) [some (ZR 0), some (ZI c)] rfl (fun V hV => ?_)
  show V 0 [some (ZR 0), some (ZI c)] [] 41 σ
  refine zr_aload_n (pc := 0) hV dX12_write_0 rfl rfl ?_
  refine zr_getR (pc := 1) hV 33 20 dX12_write_1 fX12_81 rfl rfl rfl (by decide) (zx_g33 hσ) (by omega) ?_
  refine zr_aload_n (pc := 4) hV dX12_write_4 rfl rfl ?_
  refine zr_getI (pc := 5) hV 34 dX12_write_5 fX12_396 rfl rfl rfl (by decide) ?_
  have t1 := zx_g34 hσ
  refine zr_iload_n (pc := 8) hV dX12_write_8 rfl rfl ?_
  refine zr_iast (pc := 9) hV dX12_write_9 rfl (by decide) rfl (by omega) (fun σ9 eσ9 => ?_)
  have hσ9 : zx_T σ9 := zx_ua20 eσ9 hσ (by omega)
  have hFσ9 : ∀ a i : Int, (¬ (a = 0 ∧ i = 34) ∧ a ≠ 20) → σ9 a i = σ a i := fun a i h => by rw [eσ9, zq_up_ne (fun q => h.2 q.1)]
  refine zr_aload_n (pc := 10) hV dX12_write_10 rfl rfl ?_
  refine zr_dup (pc := 11) hV dX12_write_11 (fun _ => rfl) ?_
  refine zr_getI (pc := 12) hV 34 dX12_write_12 fX12_396 rfl rfl rfl (by decide) ?_
  have t2 := zx_g34 hσ9
  have t3 : σ9 0 34 = σ 0 34 := by rw [eσ9]; exact zq_up_ne (by omega)
  refine zr_iconst (pc := 15) hV 1 dX12_write_15 rfl ?_
  refine zr_iadd (pc := 16) hV dX12_write_16 ?_
  refine zr_putI (pc := 17) hV 34 dX12_write_17 fX12_396 rfl rfl rfl rfl (by decide) (fun σ17 eσ17 => ?_)
  have hσ17 : zx_T σ17 := zx_u34 eσ17 hσ9 (by omega)
  have hFσ17 : ∀ a i : Int, (¬ (a = 0 ∧ i = 34) ∧ a ≠ 20) → σ17 a i = σ a i := fun a i h => by rw [eσ17, zq_up_ne h.1]; exact hFσ9 a i h
  have t4 := zx_g34 hσ17
  have t5 : σ17 0 34 = (σ9 0 34) + 1 := by rw [eσ17]; exact zq_up_same _ _ _ _
  exact zr_vret (pc := 20) hV dX12_write_20 rfl rfl ⟨rfl, hσ17, hFσ17, ⟨by omega, zu_sr_w (by omega) (fun j => if h : j = σ 0 34 then (by rw [if_pos h, h, eσ17, zq_up_ne (by omega), eσ9, zq_up_same]) else (by rw [if_neg h, eσ17, zq_up_ne (by omega), eσ9, zq_up_ne (by omega)]))⟩⟩
set_option maxHeartbeats 800000 in
theorem c_X12_writeLine2 {σ : zq_S} (hσ : zx_T σ) (o bits : Int) (q0 : 0 ≤ o ∧ o ≤ 20) (q1 : zq_in bits) (q2 : zx_B σ o) (q3 : 0 ≤ σ 1 o ∧ σ 1 o ≤ 19682) : zq_C zx_w yX12_writeLine cX12_writeLine 7 (none) 2 46 41 41 [ZR 0, ZI o, ZI bits] σ (zq_pv (fun τ => zx_T τ ∧ (∀ a i : Int, (¬ (a = 0 ∧ i = 34) ∧ a ≠ 20) → τ a i = σ a i) ∧ (zu_sr τ = zu_tr σ o bits (σ 20)))) := by
  refine zq_C_of (by decide) (Nat.le_refl _) (Nat.le_of_ble_eq_true rfl) [some (ZR 0), some (ZI o), some (ZI bits), none, none, none, none] rfl (fun V hV => ?_)
  show V 0 [some (ZR 0), some (ZI o), some (ZI bits), none, none, none, none] [] 41 σ
  refine zr_aload_n (pc := 0) hV dX12_writeLine_0 rfl rfl ?_
  refine zr_iconst (pc := 1) hV 0 dX12_writeLine_1 rfl ?_
  refine zr_putI (pc := 2) hV 34 dX12_writeLine_2 fX12_396 rfl rfl rfl rfl (by decide) (fun σ2 eσ2 => ?_)
  have hσ2 : zx_T σ2 := zx_u34 eσ2 hσ (by omega)
  have hFσ2 : ∀ a i : Int, (¬ (a = 0 ∧ i = 34) ∧ a ≠ 20) → σ2 a i = σ a i := fun a i h => by rw [eσ2, zq_up_ne h.1]
  refine zr_aload_n (pc := 5) hV dX12_writeLine_5 rfl rfl ?_
  refine zr_getR (pc := 6) hV 4 1 dX12_writeLine_6 fX12_19 rfl rfl rfl (by decide) (zx_g4 hσ2) (by omega) ?_
  refine zr_iload_n (pc := 9) hV dX12_writeLine_9 rfl rfl ?_
  refine zr_iald (pc := 10) hV dX12_writeLine_10 rfl (by decide) rfl (by omega) ?_
  have t1 := zx_ga1 hσ2 o
  have t2 : σ2 1 o = σ 1 o := by rw [eσ2]; exact zq_up_ne (by omega)
  have zn : σ2 1 o = σ 1 o := by rw [eσ2, zq_up_ne (by omega)]
  refine zr_istore_n (pc := 11) hV [some (ZR 0), some (ZI o), some (ZI bits), some (ZI (σ2 1 o)), none, none, none] dX12_writeLine_11 rfl (by decide) rfl rfl ?_
  refine zr_sipush (pc := 12) hV 729 dX12_writeLine_12 (by decide) ?_
  refine zr_istore (pc := 15) hV [some (ZR 0), some (ZI o), some (ZI bits), some (ZI (σ2 1 o)), some (ZI 729), none, none] dX12_writeLine_15 (by decide) rfl rfl ?_
  have L17 : ∀ (fuel : Nat) (x4_17 : Int) (σ_17 : zq_S) (k17 : Int), (0 ≤ x4_17 ∧ x4_17 ≤ 729) → (zx_T σ_17) → (∀ a i : Int, (¬ (a = 0 ∧ i = 34) ∧ a ≠ 20) → σ_17 a i = σ a i) → (0 ≤ k17 ∧ k17 ≤ 3) → ((k17 = 0 → x4_17 = 729) ∧ (k17 = 1 → x4_17 = 27) ∧ (k17 = 2 → x4_17 = 1) ∧ (k17 = 3 → x4_17 = 0)) → (zu_sr σ_17 = (zu_nmw (zu_rP (σ 1 o)) (zu_rB (σ 1 o)) (0, σ 20) k17)) → (σ_17 0 34 ≤ k17) → x4_17 < (fuel : Int) → V 17 [some (ZR 0), some (ZI o), some (ZI bits), some (ZI (σ2 1 o)), some (ZI x4_17), none, none] [] 41 σ_17 := by
    intro fuel
    induction fuel with
    | zero =>
      intro x4_17 σ_17 k17 hx4_17 hσ_17 hFσ_17 hi17_0 hi17_1 hi17_2 hi17_3 hm17
      exfalso; omega
    | succ fuel ih =>
      intro x4_17 σ_17 k17 hx4_17 hσ_17 hFσ_17 hi17_0 hi17_1 hi17_2 hi17_3 hm17
      have ih17 := ih
      show V 17 [some (ZR 0), some (ZI o), some (ZI bits), some (ZI (σ2 1 o)), some (ZI x4_17), none, none] [] 41 σ_17
      refine zr_iload (pc := 17) hV dX12_writeLine_17 rfl ?_
      refine zr_if_le (pc := 19) hV 54 dX12_writeLine_19 (by decide) (by omega) (fun c3 => ?_) (fun c3 => ?_)
      · show V 54 [some (ZR 0), some (ZI o), some (ZI bits), some (ZI (σ2 1 o)), some (ZI x4_17), none, none] [] 41 σ_17
        refine zr_iconst (pc := 54) hV 1 dX12_writeLine_54 rfl ?_
        refine zr_istore (pc := 55) hV [some (ZR 0), some (ZI o), some (ZI bits), some (ZI (σ2 1 o)), some (ZI 1), none, none] dX12_writeLine_55 (by decide) rfl rfl ?_
        refine zr_iconst (pc := 57) hV 0 dX12_writeLine_57 rfl ?_
        refine zr_istore (pc := 58) hV [some (ZR 0), some (ZI o), some (ZI bits), some (ZI (σ2 1 o)), some (ZI 1), some (ZI 0), none] dX12_writeLine_58 (by decide) rfl rfl ?_
        have L60 : ∀ (fuel : Nat) (x4_60 : Int) (x5_60 : Int) (σ_60 : zq_S), (0 ≤ x4_60 ∧ x4_60 ≤ 1) → (0 ≤ x5_60 ∧ x5_60 ≤ 4) → (zx_T σ_60) → (∀ a i : Int, (¬ (a = 0 ∧ i = 34) ∧ a ≠ 20) → σ_60 a i = σ a i) → (zu_sr σ_60 = (zu_fs (zu_rH σ o) (zu_rv σ o bits) (zu_nmw (zu_rP (σ 1 o)) (zu_rB (σ 1 o)) (0, σ 20) 3) x5_60)) → ((x4_60 = 1 → zu_sep (zu_rH σ o) x5_60 = 32) ∧ (x4_60 = 0 → zu_sep (zu_rH σ o) x5_60 = 44)) → (σ_60 0 34 ≤ 3 + 4 * x5_60) → 4 - x5_60 < (fuel : Int) → V 60 [some (ZR 0), some (ZI o), some (ZI bits), none, some (ZI x4_60), some (ZI x5_60), none] [] 41 σ_60 := by
          intro fuel
          induction fuel with
          | zero =>
            intro x4_60 x5_60 σ_60 hx4_60 hx5_60 hσ_60 hFσ_60 hi60_0 hi60_1 hi60_2 hm60
            exfalso; omega
          | succ fuel ih =>
            intro x4_60 x5_60 σ_60 hx4_60 hx5_60 hσ_60 hFσ_60 hi60_0 hi60_1 hi60_2 hm60
            have ih60 := ih
            show V 60 [some (ZR 0), some (ZI o), some (ZI bits), none, some (ZI x4_60), some (ZI x5_60), none] [] 41 σ_60
            refine zr_iload (pc := 60) hV dX12_writeLine_60 rfl ?_
            refine zr_iconst (pc := 62) hV 4 dX12_writeLine_62 rfl ?_
            refine zr_icmp_ge (pc := 63) hV 164 dX12_writeLine_63 (by decide) (by omega) ⟨by decide, by decide⟩ (fun c4 => ?_) (fun c4 => ?_)
            · show V 164 [some (ZR 0), some (ZI o), some (ZI bits), none, some (ZI x4_60), some (ZI x5_60), none] [] 41 σ_60
              exact zr_vret (pc := 164) hV dX12_writeLine_164 rfl rfl ⟨rfl, hσ_60, hFσ_60, (by unfold zu_tr; rw [hi60_0, show x5_60 = 4 by omega])⟩
            · show V 66 [some (ZR 0), some (ZI o), some (ZI bits), none, some (ZI x4_60), some (ZI x5_60), none] [] 41 σ_60
              refine zr_aload_n (pc := 66) hV dX12_writeLine_66 rfl rfl ?_
              refine zr_iload_n (pc := 67) hV dX12_writeLine_67 rfl rfl ?_
              refine zr_iload (pc := 68) hV dX12_writeLine_68 rfl ?_
              refine zr_callVp (pc := 70) hV [ZI o, ZI x5_60] (st := []) (c_X12_hasField (σ := σ_60) hσ_60 o x5_60 (by omega) (by omega)) dX12_writeLine_70 mX12_188 rfl (by decide) (by decide) (Nat.le_of_ble_eq_true rfl) (Nat.le_refl _) (fun r70 hr70 pr70 => ?_)
              have t5 := zx_g2 hσ_60
              have t6 : σ_60 0 2 = σ 0 2 := hFσ_60 _ _ (by omega)
              have fc : zx_cnt σ_60 o x5_60 (σ_60 0 2) = zx_cnt σ o x5_60 (σ 0 2) := by rw [hFσ_60 0 2 (by omega), zx_cnt_fr (fun i => hFσ_60 2 i (by omega))]
              rw [fc] at pr70
              refine zr_if_eq (pc := 73) hV 158 dX12_writeLine_73 (by decide) (by omega) (fun c7 => ?_) (fun c7 => ?_)
              · show V 158 [some (ZR 0), some (ZI o), some (ZI bits), none, some (ZI x4_60), some (ZI x5_60), none] [] 41 σ_60
                refine zr_iinc (pc := 158) hV [some (ZR 0), some (ZI o), some (ZI bits), none, some (ZI x4_60), some (ZI (x5_60 + 1)), none] (x5_60 + 1) dX12_writeLine_158 rfl rfl (by decide) rfl rfl ?_
                refine zr_goto (pc := 161) hV 60 dX12_writeLine_161 (by decide) ?_
                have t8 := zx_g34 hσ_60
                exact ih60 x4_60 (x5_60 + 1) σ_60 (by omega) (by omega) hσ_60 hFσ_60 (by rw [hi60_0]; exact (zu_fs_n (by omega) (fun q => absurd (of_decide_eq_true q) (by omega))).symm) ⟨fun h => (zu_sep_n (by omega) (fun q => absurd (of_decide_eq_true q) (by omega))).trans (hi60_1.1 h), fun h => (zu_sep_n (by omega) (fun q => absurd (of_decide_eq_true q) (by omega))).trans (hi60_1.2 h)⟩ (by omega) (by omega)
              · show V 76 [some (ZR 0), some (ZI o), some (ZI bits), none, some (ZI x4_60), some (ZI x5_60), none] [] 41 σ_60
                refine zr_aload_n (pc := 76) hV dX12_writeLine_76 rfl rfl ?_
                refine zr_iload (pc := 77) hV dX12_writeLine_77 rfl ?_
                refine zr_if_eq (pc := 79) hV 87 dX12_writeLine_79 (by decide) (by omega) (fun c9 => ?_) (fun c9 => ?_)
                · show V 87 [some (ZR 0), some (ZI o), some (ZI bits), none, some (ZI x4_60), some (ZI x5_60), none] [ZR 0] 41 σ_60
                  refine zr_bipush (pc := 87) hV 44 dX12_writeLine_87 (by decide) ?_
                  show V 89 [some (ZR 0), some (ZI o), some (ZI bits), none, some (ZI x4_60), some (ZI x5_60), none] [ZI 44, ZR 0] 41 σ_60
                  have t10 := zx_g34 hσ_60
                  refine zr_callVv (pc := 89) hV [ZI 44] (st := []) (c_X12_write2 (σ := σ_60) hσ_60 44 (by omega) (by omega)) dX12_writeLine_89 mX12_399 rfl (by decide) (by decide) (Nat.le_of_ble_eq_true rfl) (Nat.le_refl _) (fun σ89 pσ89 => ?_)
                  obtain ⟨hσ89, hfσ89, pσ89⟩ := pσ89
                  have hFσ89 : ∀ a i : Int, (¬ (a = 0 ∧ i = 34) ∧ a ≠ 20) → σ89 a i = σ a i := fun a i h => (hfσ89 a i ⟨h.1, h.2⟩).trans (hFσ_60 a i h)
                  have t11 := zx_g34 hσ_60
                  have t12 := zx_g34 hσ89
                  refine zr_iconst (pc := 92) hV 0 dX12_writeLine_92 rfl ?_
                  refine zr_istore (pc := 93) hV [some (ZR 0), some (ZI o), some (ZI bits), none, some (ZI 0), some (ZI x5_60), none] dX12_writeLine_93 (by decide) rfl rfl ?_
                  refine zr_aload_n (pc := 95) hV dX12_writeLine_95 rfl rfl ?_
                  refine zr_iload_n (pc := 96) hV dX12_writeLine_96 rfl rfl ?_
                  refine zr_iload_n (pc := 97) hV dX12_writeLine_97 rfl rfl ?_
                  refine zr_iload (pc := 98) hV dX12_writeLine_98 rfl ?_
                  refine zr_callVp (pc := 100) hV [ZI o, ZI bits, ZI x5_60] (st := []) (c_X12_fieldOf2 (σ := σ89) hσ89 o bits x5_60 (by omega) (by omega) (by omega) (zx_B_fr (fun i => hFσ89 2 i (by omega)) (hFσ89 0 2 (by omega)) q2)) dX12_writeLine_100 mX12_289 rfl (by decide) (by decide) (Nat.le_of_ble_eq_true rfl) (Nat.le_refl _) (fun r100 hr100 pr100 => ?_)
                  have zr100 : r100 = zu_rv σ o bits x5_60 := pr100.2.2.2.trans (zu_rf_fr (fun i => hFσ89 2 i (by omega)) (hFσ89 0 2 (by omega)))
                  have zsp : zu_sep (zu_rH σ o) x5_60 = 44 := hi60_1.2 (by omega)
                  refine zr_istore (pc := 103) hV [some (ZR 0), some (ZI o), some (ZI bits), none, some (ZI 0), some (ZI x5_60), some (ZI r100)] dX12_writeLine_103 (by decide) rfl rfl ?_
                  refine zr_iload (pc := 105) hV dX12_writeLine_105 rfl ?_
                  refine zr_bipush (pc := 107) hV 99 dX12_writeLine_107 (by decide) ?_
                  refine zr_icmp_le (pc := 109) hV 124 dX12_writeLine_109 (by decide) (by omega) ⟨by decide, by decide⟩ (fun c13 => ?_) (fun c13 => ?_)
                  · show V 124 [some (ZR 0), some (ZI o), some (ZI bits), none, some (ZI 0), some (ZI x5_60), some (ZI r100)] [] 41 σ89
                    refine zr_iload (pc := 124) hV dX12_writeLine_124 rfl ?_
                    refine zr_bipush (pc := 126) hV 9 dX12_writeLine_126 (by decide) ?_
                    refine zr_icmp_le (pc := 128) hV 146 dX12_writeLine_128 (by decide) (by omega) ⟨by decide, by decide⟩ (fun c14 => ?_) (fun c14 => ?_)
                    · show V 146 [some (ZR 0), some (ZI o), some (ZI bits), none, some (ZI 0), some (ZI x5_60), some (ZI r100)] [] 41 σ89
                      refine zr_aload_n (pc := 146) hV dX12_writeLine_146 rfl rfl ?_
                      refine zr_bipush (pc := 147) hV 48 dX12_writeLine_147 (by decide) ?_
                      refine zr_iload (pc := 149) hV dX12_writeLine_149 rfl ?_
                      refine zr_bipush (pc := 151) hV 10 dX12_writeLine_151 (by decide) ?_
                      refine zr_irem (pc := 153) hV dX12_writeLine_153 ⟨by decide, by decide⟩ (by omega) ?_
                      have t15 := zq_rem_c (x := r100) 10 (by decide) (by omega)
                      refine zr_iadd (pc := 154) hV dX12_writeLine_154 ?_
                      have t16 := zx_g34 hσ89
                      refine zr_callVv (pc := 155) hV [ZI (48 + (zq_rem r100 10))] (st := []) (c_X12_write2 (σ := σ89) hσ89 (48 + (zq_rem r100 10)) (by omega) (by omega)) dX12_writeLine_155 mX12_399 rfl (by decide) (by decide) (Nat.le_of_ble_eq_true rfl) (Nat.le_refl _) (fun σ155 pσ155 => ?_)
                      obtain ⟨hσ155, hfσ155, pσ155⟩ := pσ155
                      have hFσ155 : ∀ a i : Int, (¬ (a = 0 ∧ i = 34) ∧ a ≠ 20) → σ155 a i = σ a i := fun a i h => (hfσ155 a i ⟨h.1, h.2⟩).trans (hFσ89 a i h)
                      have t17 := zx_g34 hσ89
                      have t18 := zx_g34 hσ155
                      show V 158 [some (ZR 0), some (ZI o), some (ZI bits), none, some (ZI 0), some (ZI x5_60), some (ZI r100)] [] 41 σ155
                      refine zr_iinc (pc := 158) hV [some (ZR 0), some (ZI o), some (ZI bits), none, some (ZI 0), some (ZI (x5_60 + 1)), some (ZI r100)] (x5_60 + 1) dX12_writeLine_158 rfl rfl (by decide) rfl rfl ?_
                      refine zr_goto (pc := 161) hV 60 dX12_writeLine_161 (by decide) ?_
                      have t19 := zx_g34 hσ155
                      refine zr_sub (pc := 60) hV [some (ZR 0), some (ZI o), some (ZI bits), none, some (ZI 0), some (ZI (x5_60 + 1)), none] (⟨rfl, rfl, rfl, rfl, rfl, trivial⟩) ?_
                      exact ih60 0 (x5_60 + 1) σ155 (by omega) (by omega) hσ155 hFσ155 (by rw [zu_fs_y (by omega) (decide_eq_true (by omega)), ← hi60_0, zsp, ← zr100]; unfold zu_wn; rw [zu_wc_n (by omega), zu_wa_n (by omega), pσ155.2, pσ89.2]) ⟨fun h => absurd h (by omega), fun _ => zu_sep_y (by omega) (decide_eq_true (by omega))⟩ (by omega) (by omega)
                    · show V 131 [some (ZR 0), some (ZI o), some (ZI bits), none, some (ZI 0), some (ZI x5_60), some (ZI r100)] [] 41 σ89
                      refine zr_aload_n (pc := 131) hV dX12_writeLine_131 rfl rfl ?_
                      refine zr_bipush (pc := 132) hV 48 dX12_writeLine_132 (by decide) ?_
                      refine zr_iload (pc := 134) hV dX12_writeLine_134 rfl ?_
                      refine zr_bipush (pc := 136) hV 10 dX12_writeLine_136 (by decide) ?_
                      refine zr_idiv (pc := 138) hV dX12_writeLine_138 ⟨by decide, by decide⟩ (by omega) ?_
                      have t20 := zq_div_c (x := r100) 10 (by decide) (by omega)
                      refine zr_bipush (pc := 139) hV 10 dX12_writeLine_139 (by decide) ?_
                      refine zr_irem (pc := 141) hV dX12_writeLine_141 ⟨by decide, by decide⟩ (by omega) ?_
                      have t21 := zq_rem_c (x := zq_div r100 10) 10 (by decide) (by omega)
                      refine zr_iadd (pc := 142) hV dX12_writeLine_142 ?_
                      have t22 := zx_g34 hσ89
                      refine zr_callVv (pc := 143) hV [ZI (48 + (zq_rem (zq_div r100 10) 10))] (st := []) (c_X12_write2 (σ := σ89) hσ89 (48 + (zq_rem (zq_div r100 10) 10)) (by omega) (by omega)) dX12_writeLine_143 mX12_399 rfl (by decide) (by decide) (Nat.le_of_ble_eq_true rfl) (Nat.le_refl _) (fun σ143 pσ143 => ?_)
                      obtain ⟨hσ143, hfσ143, pσ143⟩ := pσ143
                      have hFσ143 : ∀ a i : Int, (¬ (a = 0 ∧ i = 34) ∧ a ≠ 20) → σ143 a i = σ a i := fun a i h => (hfσ143 a i ⟨h.1, h.2⟩).trans (hFσ89 a i h)
                      have t23 := zx_g34 hσ89
                      have t24 := zx_g34 hσ143
                      show V 146 [some (ZR 0), some (ZI o), some (ZI bits), none, some (ZI 0), some (ZI x5_60), some (ZI r100)] [] 41 σ143
                      refine zr_aload_n (pc := 146) hV dX12_writeLine_146 rfl rfl ?_
                      refine zr_bipush (pc := 147) hV 48 dX12_writeLine_147 (by decide) ?_
                      refine zr_iload (pc := 149) hV dX12_writeLine_149 rfl ?_
                      refine zr_bipush (pc := 151) hV 10 dX12_writeLine_151 (by decide) ?_
                      refine zr_irem (pc := 153) hV dX12_writeLine_153 ⟨by decide, by decide⟩ (by omega) ?_
                      have t25 := zq_rem_c (x := r100) 10 (by decide) (by omega)
                      refine zr_iadd (pc := 154) hV dX12_writeLine_154 ?_
                      have t26 := zx_g34 hσ143
                      refine zr_callVv (pc := 155) hV [ZI (48 + (zq_rem r100 10))] (st := []) (c_X12_write2 (σ := σ143) hσ143 (48 + (zq_rem r100 10)) (by omega) (by omega)) dX12_writeLine_155 mX12_399 rfl (by decide) (by decide) (Nat.le_of_ble_eq_true rfl) (Nat.le_refl _) (fun σ155 pσ155 => ?_)
                      obtain ⟨hσ155, hfσ155, pσ155⟩ := pσ155
                      have hFσ155 : ∀ a i : Int, (¬ (a = 0 ∧ i = 34) ∧ a ≠ 20) → σ155 a i = σ a i := fun a i h => (hfσ155 a i ⟨h.1, h.2⟩).trans (hFσ143 a i h)
                      have t27 := zx_g34 hσ143
                      have t28 := zx_g34 hσ155
                      show V 158 [some (ZR 0), some (ZI o), some (ZI bits), none, some (ZI 0), some (ZI x5_60), some (ZI r100)] [] 41 σ155
                      refine zr_iinc (pc := 158) hV [some (ZR 0), some (ZI o), some (ZI bits), none, some (ZI 0), some (ZI (x5_60 + 1)), some (ZI r100)] (x5_60 + 1) dX12_writeLine_158 rfl rfl (by decide) rfl rfl ?_
                      refine zr_goto (pc := 161) hV 60 dX12_writeLine_161 (by decide) ?_
                      have t29 := zx_g34 hσ155
                      refine zr_sub (pc := 60) hV [some (ZR 0), some (ZI o), some (ZI bits), none, some (ZI 0), some (ZI (x5_60 + 1)), none] (⟨rfl, rfl, rfl, rfl, rfl, trivial⟩) ?_
                      exact ih60 0 (x5_60 + 1) σ155 (by omega) (by omega) hσ155 hFσ155 (by rw [zu_fs_y (by omega) (decide_eq_true (by omega)), ← hi60_0, zsp, ← zr100]; unfold zu_wn; rw [zu_wc_y (by omega), zu_wa_n (by omega), pσ155.2, pσ143.2, pσ89.2]) ⟨fun h => absurd h (by omega), fun _ => zu_sep_y (by omega) (decide_eq_true (by omega))⟩ (by omega) (by omega)
                  · show V 112 [some (ZR 0), some (ZI o), some (ZI bits), none, some (ZI 0), some (ZI x5_60), some (ZI r100)] [] 41 σ89
                    refine zr_aload_n (pc := 112) hV dX12_writeLine_112 rfl rfl ?_
                    refine zr_bipush (pc := 113) hV 48 dX12_writeLine_113 (by decide) ?_
                    refine zr_iload (pc := 115) hV dX12_writeLine_115 rfl ?_
                    refine zr_bipush (pc := 117) hV 100 dX12_writeLine_117 (by decide) ?_
                    refine zr_idiv (pc := 119) hV dX12_writeLine_119 ⟨by decide, by decide⟩ (by omega) ?_
                    have t30 := zq_div_c (x := r100) 100 (by decide) (by omega)
                    refine zr_iadd (pc := 120) hV dX12_writeLine_120 ?_
                    have t31 := zx_g34 hσ89
                    refine zr_callVv (pc := 121) hV [ZI (48 + (zq_div r100 100))] (st := []) (c_X12_write2 (σ := σ89) hσ89 (48 + (zq_div r100 100)) (by omega) (by omega)) dX12_writeLine_121 mX12_399 rfl (by decide) (by decide) (Nat.le_of_ble_eq_true rfl) (Nat.le_refl _) (fun σ121 pσ121 => ?_)
                    obtain ⟨hσ121, hfσ121, pσ121⟩ := pσ121
                    have hFσ121 : ∀ a i : Int, (¬ (a = 0 ∧ i = 34) ∧ a ≠ 20) → σ121 a i = σ a i := fun a i h => (hfσ121 a i ⟨h.1, h.2⟩).trans (hFσ89 a i h)
                    have t32 := zx_g34 hσ89
                    have t33 := zx_g34 hσ121
                    show V 124 [some (ZR 0), some (ZI o), some (ZI bits), none, some (ZI 0), some (ZI x5_60), some (ZI r100)] [] 41 σ121
                    refine zr_iload (pc := 124) hV dX12_writeLine_124 rfl ?_
                    refine zr_bipush (pc := 126) hV 9 dX12_writeLine_126 (by decide) ?_
                    refine zr_icmp_le (pc := 128) hV 146 dX12_writeLine_128 (by decide) (by omega) ⟨by decide, by decide⟩ (fun c34 => ?_) (fun c34 => ?_)
                    · exfalso; omega
                    · show V 131 [some (ZR 0), some (ZI o), some (ZI bits), none, some (ZI 0), some (ZI x5_60), some (ZI r100)] [] 41 σ121
                      refine zr_aload_n (pc := 131) hV dX12_writeLine_131 rfl rfl ?_
                      refine zr_bipush (pc := 132) hV 48 dX12_writeLine_132 (by decide) ?_
                      refine zr_iload (pc := 134) hV dX12_writeLine_134 rfl ?_
                      refine zr_bipush (pc := 136) hV 10 dX12_writeLine_136 (by decide) ?_
                      refine zr_idiv (pc := 138) hV dX12_writeLine_138 ⟨by decide, by decide⟩ (by omega) ?_
                      have t35 := zq_div_c (x := r100) 10 (by decide) (by omega)
                      refine zr_bipush (pc := 139) hV 10 dX12_writeLine_139 (by decide) ?_
                      refine zr_irem (pc := 141) hV dX12_writeLine_141 ⟨by decide, by decide⟩ (by omega) ?_
                      have t36 := zq_rem_c (x := zq_div r100 10) 10 (by decide) (by omega)
                      refine zr_iadd (pc := 142) hV dX12_writeLine_142 ?_
                      have t37 := zx_g34 hσ121
                      refine zr_callVv (pc := 143) hV [ZI (48 + (zq_rem (zq_div r100 10) 10))] (st := []) (c_X12_write2 (σ := σ121) hσ121 (48 + (zq_rem (zq_div r100 10) 10)) (by omega) (by omega)) dX12_writeLine_143 mX12_399 rfl (by decide) (by decide) (Nat.le_of_ble_eq_true rfl) (Nat.le_refl _) (fun σ143 pσ143 => ?_)
                      obtain ⟨hσ143, hfσ143, pσ143⟩ := pσ143
                      have hFσ143 : ∀ a i : Int, (¬ (a = 0 ∧ i = 34) ∧ a ≠ 20) → σ143 a i = σ a i := fun a i h => (hfσ143 a i ⟨h.1, h.2⟩).trans (hFσ121 a i h)
                      have t38 := zx_g34 hσ121
                      have t39 := zx_g34 hσ143
                      show V 146 [some (ZR 0), some (ZI o), some (ZI bits), none, some (ZI 0), some (ZI x5_60), some (ZI r100)] [] 41 σ143
                      refine zr_aload_n (pc := 146) hV dX12_writeLine_146 rfl rfl ?_
                      refine zr_bipush (pc := 147) hV 48 dX12_writeLine_147 (by decide) ?_
                      refine zr_iload (pc := 149) hV dX12_writeLine_149 rfl ?_
                      refine zr_bipush (pc := 151) hV 10 dX12_writeLine_151 (by decide) ?_
                      refine zr_irem (pc := 153) hV dX12_writeLine_153 ⟨by decide, by decide⟩ (by omega) ?_
                      have t40 := zq_rem_c (x := r100) 10 (by decide) (by omega)
                      refine zr_iadd (pc := 154) hV dX12_writeLine_154 ?_
                      have t41 := zx_g34 hσ143
                      refine zr_callVv (pc := 155) hV [ZI (48 + (zq_rem r100 10))] (st := []) (c_X12_write2 (σ := σ143) hσ143 (48 + (zq_rem r100 10)) (by omega) (by omega)) dX12_writeLine_155 mX12_399 rfl (by decide) (by decide) (Nat.le_of_ble_eq_true rfl) (Nat.le_refl _) (fun σ155 pσ155 => ?_)
                      obtain ⟨hσ155, hfσ155, pσ155⟩ := pσ155
                      have hFσ155 : ∀ a i : Int, (¬ (a = 0 ∧ i = 34) ∧ a ≠ 20) → σ155 a i = σ a i := fun a i h => (hfσ155 a i ⟨h.1, h.2⟩).trans (hFσ143 a i h)
                      have t42 := zx_g34 hσ143
                      have t43 := zx_g34 hσ155
                      show V 158 [some (ZR 0), some (ZI o), some (ZI bits), none, some (ZI 0), some (ZI x5_60), some (ZI r100)] [] 41 σ155
                      refine zr_iinc (pc := 158) hV [some (ZR 0), some (ZI o), some (ZI bits), none, some (ZI 0), some (ZI (x5_60 + 1)), some (ZI r100)] (x5_60 + 1) dX12_writeLine_158 rfl rfl (by decide) rfl rfl ?_
                      refine zr_goto (pc := 161) hV 60 dX12_writeLine_161 (by decide) ?_
                      have t44 := zx_g34 hσ155
                      refine zr_sub (pc := 60) hV [some (ZR 0), some (ZI o), some (ZI bits), none, some (ZI 0), some (ZI (x5_60 + 1)), none] (⟨rfl, rfl, rfl, rfl, rfl, trivial⟩) ?_
                      exact ih60 0 (x5_60 + 1) σ155 (by omega) (by omega) hσ155 hFσ155 (by rw [zu_fs_y (by omega) (decide_eq_true (by omega)), ← hi60_0, zsp, ← zr100]; unfold zu_wn; rw [zu_wc_y (by omega), zu_wa_y (by omega), pσ155.2, pσ143.2, pσ121.2, pσ89.2]) ⟨fun h => absurd h (by omega), fun _ => zu_sep_y (by omega) (decide_eq_true (by omega))⟩ (by omega) (by omega)
                · show V 82 [some (ZR 0), some (ZI o), some (ZI bits), none, some (ZI x4_60), some (ZI x5_60), none] [ZR 0] 41 σ_60
                  refine zr_bipush (pc := 82) hV 32 dX12_writeLine_82 (by decide) ?_
                  refine zr_goto (pc := 84) hV 89 dX12_writeLine_84 (by decide) ?_
                  show V 89 [some (ZR 0), some (ZI o), some (ZI bits), none, some (ZI x4_60), some (ZI x5_60), none] [ZI 32, ZR 0] 41 σ_60
                  have t45 := zx_g34 hσ_60
                  refine zr_callVv (pc := 89) hV [ZI 32] (st := []) (c_X12_write2 (σ := σ_60) hσ_60 32 (by omega) (by omega)) dX12_writeLine_89 mX12_399 rfl (by decide) (by decide) (Nat.le_of_ble_eq_true rfl) (Nat.le_refl _) (fun σ89 pσ89 => ?_)
                  obtain ⟨hσ89, hfσ89, pσ89⟩ := pσ89
                  have hFσ89 : ∀ a i : Int, (¬ (a = 0 ∧ i = 34) ∧ a ≠ 20) → σ89 a i = σ a i := fun a i h => (hfσ89 a i ⟨h.1, h.2⟩).trans (hFσ_60 a i h)
                  have t46 := zx_g34 hσ_60
                  have t47 := zx_g34 hσ89
                  refine zr_iconst (pc := 92) hV 0 dX12_writeLine_92 rfl ?_
                  refine zr_istore (pc := 93) hV [some (ZR 0), some (ZI o), some (ZI bits), none, some (ZI 0), some (ZI x5_60), none] dX12_writeLine_93 (by decide) rfl rfl ?_
                  refine zr_aload_n (pc := 95) hV dX12_writeLine_95 rfl rfl ?_
                  refine zr_iload_n (pc := 96) hV dX12_writeLine_96 rfl rfl ?_
                  refine zr_iload_n (pc := 97) hV dX12_writeLine_97 rfl rfl ?_
                  refine zr_iload (pc := 98) hV dX12_writeLine_98 rfl ?_
                  refine zr_callVp (pc := 100) hV [ZI o, ZI bits, ZI x5_60] (st := []) (c_X12_fieldOf2 (σ := σ89) hσ89 o bits x5_60 (by omega) (by omega) (by omega) (zx_B_fr (fun i => hFσ89 2 i (by omega)) (hFσ89 0 2 (by omega)) q2)) dX12_writeLine_100 mX12_289 rfl (by decide) (by decide) (Nat.le_of_ble_eq_true rfl) (Nat.le_refl _) (fun r100 hr100 pr100 => ?_)
                  have zr100 : r100 = zu_rv σ o bits x5_60 := pr100.2.2.2.trans (zu_rf_fr (fun i => hFσ89 2 i (by omega)) (hFσ89 0 2 (by omega)))
                  have zsp : zu_sep (zu_rH σ o) x5_60 = 32 := hi60_1.1 (by omega)
                  refine zr_istore (pc := 103) hV [some (ZR 0), some (ZI o), some (ZI bits), none, some (ZI 0), some (ZI x5_60), some (ZI r100)] dX12_writeLine_103 (by decide) rfl rfl ?_
                  refine zr_iload (pc := 105) hV dX12_writeLine_105 rfl ?_
                  refine zr_bipush (pc := 107) hV 99 dX12_writeLine_107 (by decide) ?_
                  refine zr_icmp_le (pc := 109) hV 124 dX12_writeLine_109 (by decide) (by omega) ⟨by decide, by decide⟩ (fun c48 => ?_) (fun c48 => ?_)
                  · show V 124 [some (ZR 0), some (ZI o), some (ZI bits), none, some (ZI 0), some (ZI x5_60), some (ZI r100)] [] 41 σ89
                    refine zr_iload (pc := 124) hV dX12_writeLine_124 rfl ?_
                    refine zr_bipush (pc := 126) hV 9 dX12_writeLine_126 (by decide) ?_
                    refine zr_icmp_le (pc := 128) hV 146 dX12_writeLine_128 (by decide) (by omega) ⟨by decide, by decide⟩ (fun c49 => ?_) (fun c49 => ?_)
                    · show V 146 [some (ZR 0), some (ZI o), some (ZI bits), none, some (ZI 0), some (ZI x5_60), some (ZI r100)] [] 41 σ89
                      refine zr_aload_n (pc := 146) hV dX12_writeLine_146 rfl rfl ?_
                      refine zr_bipush (pc := 147) hV 48 dX12_writeLine_147 (by decide) ?_
                      refine zr_iload (pc := 149) hV dX12_writeLine_149 rfl ?_
                      refine zr_bipush (pc := 151) hV 10 dX12_writeLine_151 (by decide) ?_
                      refine zr_irem (pc := 153) hV dX12_writeLine_153 ⟨by decide, by decide⟩ (by omega) ?_
                      have t50 := zq_rem_c (x := r100) 10 (by decide) (by omega)
                      refine zr_iadd (pc := 154) hV dX12_writeLine_154 ?_
                      have t51 := zx_g34 hσ89
                      refine zr_callVv (pc := 155) hV [ZI (48 + (zq_rem r100 10))] (st := []) (c_X12_write2 (σ := σ89) hσ89 (48 + (zq_rem r100 10)) (by omega) (by omega)) dX12_writeLine_155 mX12_399 rfl (by decide) (by decide) (Nat.le_of_ble_eq_true rfl) (Nat.le_refl _) (fun σ155 pσ155 => ?_)
                      obtain ⟨hσ155, hfσ155, pσ155⟩ := pσ155
                      have hFσ155 : ∀ a i : Int, (¬ (a = 0 ∧ i = 34) ∧ a ≠ 20) → σ155 a i = σ a i := fun a i h => (hfσ155 a i ⟨h.1, h.2⟩).trans (hFσ89 a i h)
                      have t52 := zx_g34 hσ89
                      have t53 := zx_g34 hσ155
                      show V 158 [some (ZR 0), some (ZI o), some (ZI bits), none, some (ZI 0), some (ZI x5_60), some (ZI r100)] [] 41 σ155
                      refine zr_iinc (pc := 158) hV [some (ZR 0), some (ZI o), some (ZI bits), none, some (ZI 0), some (ZI (x5_60 + 1)), some (ZI r100)] (x5_60 + 1) dX12_writeLine_158 rfl rfl (by decide) rfl rfl ?_
                      refine zr_goto (pc := 161) hV 60 dX12_writeLine_161 (by decide) ?_
                      have t54 := zx_g34 hσ155
                      refine zr_sub (pc := 60) hV [some (ZR 0), some (ZI o), some (ZI bits), none, some (ZI 0), some (ZI (x5_60 + 1)), none] (⟨rfl, rfl, rfl, rfl, rfl, trivial⟩) ?_
                      exact ih60 0 (x5_60 + 1) σ155 (by omega) (by omega) hσ155 hFσ155 (by rw [zu_fs_y (by omega) (decide_eq_true (by omega)), ← hi60_0, zsp, ← zr100]; unfold zu_wn; rw [zu_wc_n (by omega), zu_wa_n (by omega), pσ155.2, pσ89.2]) ⟨fun h => absurd h (by omega), fun _ => zu_sep_y (by omega) (decide_eq_true (by omega))⟩ (by omega) (by omega)
                    · show V 131 [some (ZR 0), some (ZI o), some (ZI bits), none, some (ZI 0), some (ZI x5_60), some (ZI r100)] [] 41 σ89
                      refine zr_aload_n (pc := 131) hV dX12_writeLine_131 rfl rfl ?_
                      refine zr_bipush (pc := 132) hV 48 dX12_writeLine_132 (by decide) ?_
                      refine zr_iload (pc := 134) hV dX12_writeLine_134 rfl ?_
                      refine zr_bipush (pc := 136) hV 10 dX12_writeLine_136 (by decide) ?_
                      refine zr_idiv (pc := 138) hV dX12_writeLine_138 ⟨by decide, by decide⟩ (by omega) ?_
                      have t55 := zq_div_c (x := r100) 10 (by decide) (by omega)
                      refine zr_bipush (pc := 139) hV 10 dX12_writeLine_139 (by decide) ?_
                      refine zr_irem (pc := 141) hV dX12_writeLine_141 ⟨by decide, by decide⟩ (by omega) ?_
                      have t56 := zq_rem_c (x := zq_div r100 10) 10 (by decide) (by omega)
                      refine zr_iadd (pc := 142) hV dX12_writeLine_142 ?_
                      have t57 := zx_g34 hσ89
                      refine zr_callVv (pc := 143) hV [ZI (48 + (zq_rem (zq_div r100 10) 10))] (st := []) (c_X12_write2 (σ := σ89) hσ89 (48 + (zq_rem (zq_div r100 10) 10)) (by omega) (by omega)) dX12_writeLine_143 mX12_399 rfl (by decide) (by decide) (Nat.le_of_ble_eq_true rfl) (Nat.le_refl _) (fun σ143 pσ143 => ?_)
                      obtain ⟨hσ143, hfσ143, pσ143⟩ := pσ143
                      have hFσ143 : ∀ a i : Int, (¬ (a = 0 ∧ i = 34) ∧ a ≠ 20) → σ143 a i = σ a i := fun a i h => (hfσ143 a i ⟨h.1, h.2⟩).trans (hFσ89 a i h)
                      have t58 := zx_g34 hσ89
                      have t59 := zx_g34 hσ143
                      show V 146 [some (ZR 0), some (ZI o), some (ZI bits), none, some (ZI 0), some (ZI x5_60), some (ZI r100)] [] 41 σ143
                      refine zr_aload_n (pc := 146) hV dX12_writeLine_146 rfl rfl ?_
                      refine zr_bipush (pc := 147) hV 48 dX12_writeLine_147 (by decide) ?_
                      refine zr_iload (pc := 149) hV dX12_writeLine_149 rfl ?_
                      refine zr_bipush (pc := 151) hV 10 dX12_writeLine_151 (by decide) ?_
                      refine zr_irem (pc := 153) hV dX12_writeLine_153 ⟨by decide, by decide⟩ (by omega) ?_
                      have t60 := zq_rem_c (x := r100) 10 (by decide) (by omega)
                      refine zr_iadd (pc := 154) hV dX12_writeLine_154 ?_
                      have t61 := zx_g34 hσ143
                      refine zr_callVv (pc := 155) hV [ZI (48 + (zq_rem r100 10))] (st := []) (c_X12_write2 (σ := σ143) hσ143 (48 + (zq_rem r100 10)) (by omega) (by omega)) dX12_writeLine_155 mX12_399 rfl (by decide) (by decide) (Nat.le_of_ble_eq_true rfl) (Nat.le_refl _) (fun σ155 pσ155 => ?_)
                      obtain ⟨hσ155, hfσ155, pσ155⟩ := pσ155
                      have hFσ155 : ∀ a i : Int, (¬ (a = 0 ∧ i = 34) ∧ a ≠ 20) → σ155 a i = σ a i := fun a i h => (hfσ155 a i ⟨h.1, h.2⟩).trans (hFσ143 a i h)
                      have t62 := zx_g34 hσ143
                      have t63 := zx_g34 hσ155
                      show V 158 [some (ZR 0), some (ZI o), some (ZI bits), none, some (ZI 0), some (ZI x5_60), some (ZI r100)] [] 41 σ155
                      refine zr_iinc (pc := 158) hV [some (ZR 0), some (ZI o), some (ZI bits), none, some (ZI 0), some (ZI (x5_60 + 1)), some (ZI r100)] (x5_60 + 1) dX12_writeLine_158 rfl rfl (by decide) rfl rfl ?_
                      refine zr_goto (pc := 161) hV 60 dX12_writeLine_161 (by decide) ?_
                      have t64 := zx_g34 hσ155
                      refine zr_sub (pc := 60) hV [some (ZR 0), some (ZI o), some (ZI bits), none, some (ZI 0), some (ZI (x5_60 + 1)), none] (⟨rfl, rfl, rfl, rfl, rfl, trivial⟩) ?_
                      exact ih60 0 (x5_60 + 1) σ155 (by omega) (by omega) hσ155 hFσ155 (by rw [zu_fs_y (by omega) (decide_eq_true (by omega)), ← hi60_0, zsp, ← zr100]; unfold zu_wn; rw [zu_wc_y (by omega), zu_wa_n (by omega), pσ155.2, pσ143.2, pσ89.2]) ⟨fun h => absurd h (by omega), fun _ => zu_sep_y (by omega) (decide_eq_true (by omega))⟩ (by omega) (by omega)
                  · show V 112 [some (ZR 0), some (ZI o), some (ZI bits), none, some (ZI 0), some (ZI x5_60), some (ZI r100)] [] 41 σ89
                    refine zr_aload_n (pc := 112) hV dX12_writeLine_112 rfl rfl ?_
                    refine zr_bipush (pc := 113) hV 48 dX12_writeLine_113 (by decide) ?_
                    refine zr_iload (pc := 115) hV dX12_writeLine_115 rfl ?_
                    refine zr_bipush (pc := 117) hV 100 dX12_writeLine_117 (by decide) ?_
                    refine zr_idiv (pc := 119) hV dX12_writeLine_119 ⟨by decide, by decide⟩ (by omega) ?_
                    have t65 := zq_div_c (x := r100) 100 (by decide) (by omega)
                    refine zr_iadd (pc := 120) hV dX12_writeLine_120 ?_
                    have t66 := zx_g34 hσ89
                    refine zr_callVv (pc := 121) hV [ZI (48 + (zq_div r100 100))] (st := []) (c_X12_write2 (σ := σ89) hσ89 (48 + (zq_div r100 100)) (by omega) (by omega)) dX12_writeLine_121 mX12_399 rfl (by decide) (by decide) (Nat.le_of_ble_eq_true rfl) (Nat.le_refl _) (fun σ121 pσ121 => ?_)
                    obtain ⟨hσ121, hfσ121, pσ121⟩ := pσ121
                    have hFσ121 : ∀ a i : Int, (¬ (a = 0 ∧ i = 34) ∧ a ≠ 20) → σ121 a i = σ a i := fun a i h => (hfσ121 a i ⟨h.1, h.2⟩).trans (hFσ89 a i h)
                    have t67 := zx_g34 hσ89
                    have t68 := zx_g34 hσ121
                    show V 124 [some (ZR 0), some (ZI o), some (ZI bits), none, some (ZI 0), some (ZI x5_60), some (ZI r100)] [] 41 σ121
                    refine zr_iload (pc := 124) hV dX12_writeLine_124 rfl ?_
                    refine zr_bipush (pc := 126) hV 9 dX12_writeLine_126 (by decide) ?_
                    refine zr_icmp_le (pc := 128) hV 146 dX12_writeLine_128 (by decide) (by omega) ⟨by decide, by decide⟩ (fun c69 => ?_) (fun c69 => ?_)
                    · exfalso; omega
                    · show V 131 [some (ZR 0), some (ZI o), some (ZI bits), none, some (ZI 0), some (ZI x5_60), some (ZI r100)] [] 41 σ121
                      refine zr_aload_n (pc := 131) hV dX12_writeLine_131 rfl rfl ?_
                      refine zr_bipush (pc := 132) hV 48 dX12_writeLine_132 (by decide) ?_
                      refine zr_iload (pc := 134) hV dX12_writeLine_134 rfl ?_
                      refine zr_bipush (pc := 136) hV 10 dX12_writeLine_136 (by decide) ?_
                      refine zr_idiv (pc := 138) hV dX12_writeLine_138 ⟨by decide, by decide⟩ (by omega) ?_
                      have t70 := zq_div_c (x := r100) 10 (by decide) (by omega)
                      refine zr_bipush (pc := 139) hV 10 dX12_writeLine_139 (by decide) ?_
                      refine zr_irem (pc := 141) hV dX12_writeLine_141 ⟨by decide, by decide⟩ (by omega) ?_
                      have t71 := zq_rem_c (x := zq_div r100 10) 10 (by decide) (by omega)
                      refine zr_iadd (pc := 142) hV dX12_writeLine_142 ?_
                      have t72 := zx_g34 hσ121
                      refine zr_callVv (pc := 143) hV [ZI (48 + (zq_rem (zq_div r100 10) 10))] (st := []) (c_X12_write2 (σ := σ121) hσ121 (48 + (zq_rem (zq_div r100 10) 10)) (by omega) (by omega)) dX12_writeLine_143 mX12_399 rfl (by decide) (by decide) (Nat.le_of_ble_eq_true rfl) (Nat.le_refl _) (fun σ143 pσ143 => ?_)
                      obtain ⟨hσ143, hfσ143, pσ143⟩ := pσ143
                      have hFσ143 : ∀ a i : Int, (¬ (a = 0 ∧ i = 34) ∧ a ≠ 20) → σ143 a i = σ a i := fun a i h => (hfσ143 a i ⟨h.1, h.2⟩).trans (hFσ121 a i h)
                      have t73 := zx_g34 hσ121
                      have t74 := zx_g34 hσ143
                      show V 146 [some (ZR 0), some (ZI o), some (ZI bits), none, some (ZI 0), some (ZI x5_60), some (ZI r100)] [] 41 σ143
                      refine zr_aload_n (pc := 146) hV dX12_writeLine_146 rfl rfl ?_
                      refine zr_bipush (pc := 147) hV 48 dX12_writeLine_147 (by decide) ?_
                      refine zr_iload (pc := 149) hV dX12_writeLine_149 rfl ?_
                      refine zr_bipush (pc := 151) hV 10 dX12_writeLine_151 (by decide) ?_
                      refine zr_irem (pc := 153) hV dX12_writeLine_153 ⟨by decide, by decide⟩ (by omega) ?_
                      have t75 := zq_rem_c (x := r100) 10 (by decide) (by omega)
                      refine zr_iadd (pc := 154) hV dX12_writeLine_154 ?_
                      have t76 := zx_g34 hσ143
                      refine zr_callVv (pc := 155) hV [ZI (48 + (zq_rem r100 10))] (st := []) (c_X12_write2 (σ := σ143) hσ143 (48 + (zq_rem r100 10)) (by omega) (by omega)) dX12_writeLine_155 mX12_399 rfl (by decide) (by decide) (Nat.le_of_ble_eq_true rfl) (Nat.le_refl _) (fun σ155 pσ155 => ?_)
                      obtain ⟨hσ155, hfσ155, pσ155⟩ := pσ155
                      have hFσ155 : ∀ a i : Int, (¬ (a = 0 ∧ i = 34) ∧ a ≠ 20) → σ155 a i = σ a i := fun a i h => (hfσ155 a i ⟨h.1, h.2⟩).trans (hFσ143 a i h)
                      have t77 := zx_g34 hσ143
                      have t78 := zx_g34 hσ155
                      show V 158 [some (ZR 0), some (ZI o), some (ZI bits), none, some (ZI 0), some (ZI x5_60), some (ZI r100)] [] 41 σ155
                      refine zr_iinc (pc := 158) hV [some (ZR 0), some (ZI o), some (ZI bits), none, some (ZI 0), some (ZI (x5_60 + 1)), some (ZI r100)] (x5_60 + 1) dX12_writeLine_158 rfl rfl (by decide) rfl rfl ?_
                      refine zr_goto (pc := 161) hV 60 dX12_writeLine_161 (by decide) ?_
                      have t79 := zx_g34 hσ155
                      refine zr_sub (pc := 60) hV [some (ZR 0), some (ZI o), some (ZI bits), none, some (ZI 0), some (ZI (x5_60 + 1)), none] (⟨rfl, rfl, rfl, rfl, rfl, trivial⟩) ?_
                      exact ih60 0 (x5_60 + 1) σ155 (by omega) (by omega) hσ155 hFσ155 (by rw [zu_fs_y (by omega) (decide_eq_true (by omega)), ← hi60_0, zsp, ← zr100]; unfold zu_wn; rw [zu_wc_y (by omega), zu_wa_y (by omega), pσ155.2, pσ143.2, pσ121.2, pσ89.2]) ⟨fun h => absurd h (by omega), fun _ => zu_sep_y (by omega) (decide_eq_true (by omega))⟩ (by omega) (by omega)
        have t80 := zx_g34 hσ_17
        refine zr_sub (pc := 60) hV [some (ZR 0), some (ZI o), some (ZI bits), none, some (ZI 1), some (ZI 0), none] (⟨rfl, rfl, rfl, rfl, rfl, trivial⟩) ?_
        exact L60 (4 - (0 : Int) + 1 : Int).toNat 1 0 σ_17 (by omega) (by omega) hσ_17 hFσ_17 (by rw [zu_fs_z, show (3 : Int) = k17 by omega]; exact hi17_2) ⟨fun _ => zu_sep_z _, fun h => absurd h (by omega)⟩ (by omega) (by omega)
      · show V 22 [some (ZR 0), some (ZI o), some (ZI bits), some (ZI (σ2 1 o)), some (ZI x4_17), none, none] [] 41 σ_17
        have zy : x4_17 = zu_y3 k17 := zu_y3_of hi17_1 (by omega)
        refine zr_iload_n (pc := 22) hV dX12_writeLine_22 rfl rfl ?_
        refine zr_iload (pc := 23) hV dX12_writeLine_23 rfl ?_
        refine zr_icmp_lt (pc := 25) hV 44 dX12_writeLine_25 (by decide) (by omega) (by omega) (fun c81 => ?_) (fun c81 => ?_)
        · show V 44 [some (ZR 0), some (ZI o), some (ZI bits), some (ZI (σ2 1 o)), some (ZI x4_17), none, none] [] 41 σ_17
          refine zr_iload (pc := 44) hV dX12_writeLine_44 rfl ?_
          refine zr_bipush (pc := 46) hV 27 dX12_writeLine_46 (by decide) ?_
          refine zr_idiv (pc := 48) hV dX12_writeLine_48 ⟨by decide, by decide⟩ (by omega) ?_
          have t82 := zq_div_c (x := x4_17) 27 (by decide) (by omega)
          refine zr_istore (pc := 49) hV [some (ZR 0), some (ZI o), some (ZI bits), some (ZI (σ2 1 o)), some (ZI (zq_div x4_17 27)), none, none] dX12_writeLine_49 (by decide) rfl rfl ?_
          refine zr_goto (pc := 51) hV 17 dX12_writeLine_51 (by decide) ?_
          have t83 := zx_g34 hσ_17
          exact ih17 (zq_div x4_17 27) σ_17 (k17 + 1) (by omega) hσ_17 hFσ_17 (by omega) (by omega) (by rw [hi17_2]; exact (zu_nmw_n (by omega) (fun q => absurd (of_decide_eq_true q) (by rw [← zy]; omega))).symm) (by omega) (by omega)
        · show V 28 [some (ZR 0), some (ZI o), some (ZI bits), some (ZI (σ2 1 o)), some (ZI x4_17), none, none] [] 41 σ_17
          refine zr_aload_n (pc := 28) hV dX12_writeLine_28 rfl rfl ?_
          refine zr_bipush (pc := 29) hV 97 dX12_writeLine_29 (by decide) ?_
          refine zr_iload_n (pc := 31) hV dX12_writeLine_31 rfl rfl ?_
          refine zr_iload (pc := 32) hV dX12_writeLine_32 rfl ?_
          refine zr_idiv (pc := 34) hV dX12_writeLine_34 (by omega) (by omega) ?_
          have t84 := zq_div_b (x := σ2 1 o) (y := x4_17) (by omega) (by omega)
          refine zr_bipush (pc := 35) hV 27 dX12_writeLine_35 (by decide) ?_
          refine zr_irem (pc := 37) hV dX12_writeLine_37 ⟨by decide, by decide⟩ (by omega) ?_
          have t85 := zq_rem_c (x := zq_div (σ2 1 o) x4_17) 27 (by decide) (by omega)
          refine zr_iadd (pc := 38) hV dX12_writeLine_38 ?_
          refine zr_iconst (pc := 39) hV 1 dX12_writeLine_39 rfl ?_
          refine zr_isub (pc := 40) hV dX12_writeLine_40 ?_
          have t86 := zx_g34 hσ_17
          refine zr_callVv (pc := 41) hV [ZI ((97 + (zq_rem (zq_div (σ2 1 o) x4_17) 27)) - 1)] (st := []) (c_X12_write2 (σ := σ_17) hσ_17 ((97 + (zq_rem (zq_div (σ2 1 o) x4_17) 27)) - 1) (by omega) (by omega)) dX12_writeLine_41 mX12_399 rfl (by decide) (by decide) (Nat.le_of_ble_eq_true rfl) (Nat.le_refl _) (fun σ41 pσ41 => ?_)
          obtain ⟨hσ41, hfσ41, pσ41⟩ := pσ41
          have hFσ41 : ∀ a i : Int, (¬ (a = 0 ∧ i = 34) ∧ a ≠ 20) → σ41 a i = σ a i := fun a i h => (hfσ41 a i ⟨h.1, h.2⟩).trans (hFσ_17 a i h)
          have t87 := zx_g34 hσ_17
          have t88 := zx_g34 hσ41
          show V 44 [some (ZR 0), some (ZI o), some (ZI bits), some (ZI (σ2 1 o)), some (ZI x4_17), none, none] [] 41 σ41
          refine zr_iload (pc := 44) hV dX12_writeLine_44 rfl ?_
          refine zr_bipush (pc := 46) hV 27 dX12_writeLine_46 (by decide) ?_
          refine zr_idiv (pc := 48) hV dX12_writeLine_48 ⟨by decide, by decide⟩ (by omega) ?_
          have t89 := zq_div_c (x := x4_17) 27 (by decide) (by omega)
          refine zr_istore (pc := 49) hV [some (ZR 0), some (ZI o), some (ZI bits), some (ZI (σ2 1 o)), some (ZI (zq_div x4_17 27)), none, none] dX12_writeLine_49 (by decide) rfl rfl ?_
          refine zr_goto (pc := 51) hV 17 dX12_writeLine_51 (by decide) ?_
          have t90 := zx_g34 hσ41
          exact ih17 (zq_div x4_17 27) σ41 (k17 + 1) (by omega) hσ41 hFσ41 (by omega) (by omega) (by rw [pσ41.2, hi17_2, zu_nmw_y (by omega) (decide_eq_true (by rw [← zy]; omega))]; unfold zu_rB; rw [← zy, zn]) (by omega) (by omega)
  have t91 := zx_g34 hσ2
  have t92 : σ2 0 34 = 0 := by rw [eσ2]; exact zq_up_same _ _ _ _
  exact L17 ((729 : Int) + 1 : Int).toNat 729 σ2 0 (by omega) hσ2 hFσ2 (by omega) (by omega) (Prod.ext (show σ2 0 34 = 0 by rw [eσ2, zq_up_same]) (funext (fun j => by show σ2 20 j = σ 20 j; rw [eσ2, zq_up_ne (by omega)]))) (by omega) (by omega)
set_option maxHeartbeats 800000 in
theorem c_X12_text3 {σ : zq_S} (hσ : zx_T σ) (bits n : Int) (q0 : zq_in bits) (q1 : zq_in n) (q2 : ∀ i, 0 ≤ i → i < σ 0 3 → 0 ≤ σ 1 i ∧ σ 1 i ≤ 19682) (Mσ : zx_M σ) (Oσ : zx_O σ) (Wσ : zx_W σ) : zq_C zx_w yX12_text cX12_text 4 (some .int) 3 72 41 41 [ZR 0, ZI bits, ZI n] σ (zq_pi (fun r τ => zx_T τ ∧ (∀ a i : Int, (¬ (a = 0 ∧ i = 30) ∧ ¬ (a = 0 ∧ i = 34) ∧ a ≠ 18 ∧ a ≠ 20) → τ a i = σ a i) ∧ (True) ∧ zq_hid ((¬ (0 ≤ bits ∧ bits < zx_p2 (σ 0 2) ∧ -1 ≤ n) → r = -1) ∧ ((0 ≤ bits ∧ bits < zx_p2 (σ 0 2) ∧ -1 ≤ n) → ∃ o, zt_ow σ bits o ∧ (o < 0 → r = -4) ∧ (0 ≤ o → zu_tq (zu_tr σ o bits (σ 20)) n r))) ∧ zx_M τ ∧ zx_O τ ∧ zx_W τ)) := by
  refine zq_C_of (by decide) (Nat.le_refl _) (Nat.le_of_ble_eq_true rfl) [some (ZR 0), some (ZI bits), some (ZI n), none] rfl (fun V hV => ?_)
  show V 0 [some (ZR 0), some (ZI bits), some (ZI n), none] [] 41 σ
  refine zr_aload_n (pc := 0) hV dX12_text_0 rfl rfl ?_
  refine zr_iload_n (pc := 1) hV dX12_text_1 rfl rfl ?_
  refine zr_callVp (pc := 2) hV [ZI bits] (st := []) (c_X12_isBits2 (σ := σ) hσ bits (by omega)) dX12_text_2 mX12_280 rfl (by decide) (by decide) (Nat.le_of_ble_eq_true rfl) (Nat.le_refl _) (fun r2 hr2 pr2 => ?_)
  have t1 := zx_g2 hσ
  refine zr_if_eq (pc := 5) hV 13 dX12_text_5 (by decide) (by omega) (fun c2 => ?_) (fun c2 => ?_)
  · show V 13 [some (ZR 0), some (ZI bits), some (ZI n), none] [] 41 σ
    refine zr_iconst (pc := 13) hV (-1) dX12_text_13 rfl ?_
    exact zr_iret (pc := 14) hV dX12_text_14 rfl rfl ⟨_, rfl, ⟨by decide, by decide⟩, hσ, (fun a i _ => rfl), trivial, (show (¬ (0 ≤ bits ∧ bits < zx_p2 (σ 0 2) ∧ -1 ≤ n) → ((-1) : Int) = -1) ∧ ((0 ≤ bits ∧ bits < zx_p2 (σ 0 2) ∧ -1 ≤ n) → ∃ o, zt_ow σ bits o ∧ (o < 0 → ((-1) : Int) = -4) ∧ (0 ≤ o → zu_tq (zu_tr σ o bits (σ 20)) n ((-1) : Int))) from ⟨fun _ => rfl, fun h => absurd h (by omega)⟩), Mσ, Oσ, Wσ⟩
  · show V 8 [some (ZR 0), some (ZI bits), some (ZI n), none] [] 41 σ
    refine zr_iload_n (pc := 8) hV dX12_text_8 rfl rfl ?_
    refine zr_iconst (pc := 9) hV (-1) dX12_text_9 rfl ?_
    refine zr_icmp_ge (pc := 10) hV 15 dX12_text_10 (by decide) (by omega) ⟨by decide, by decide⟩ (fun c3 => ?_) (fun c3 => ?_)
    · show V 15 [some (ZR 0), some (ZI bits), some (ZI n), none] [] 41 σ
      refine zr_aload_n (pc := 15) hV dX12_text_15 rfl rfl ?_
      refine zr_iload_n (pc := 16) hV dX12_text_16 rfl rfl ?_
      refine zr_callVi (pc := 17) hV [ZI bits] (st := []) (c_X12_ownerOf2 (σ := σ) hσ bits (by omega) Mσ Wσ) dX12_text_17 mX12_283 rfl (by decide) (by decide) (Nat.le_of_ble_eq_true rfl) (Nat.le_refl _) (fun r17 σ17 hr17 pσ17 => ?_)
      obtain ⟨hσ17, hfσ17, pσ17⟩ := pσ17
      have Mσ17 : zx_M σ17 := pσ17.2.2.2.2.2.1
      have Oσ17 : zx_O σ17 := zx_O_fr (fun i => hfσ17 2 i (by omega)) (fun i => hfσ17 5 i (by omega)) (fun i => hfσ17 6 i (by omega)) (hfσ17 0 2 (by omega)) (hfσ17 0 3 (by omega)) Oσ
      have Wσ17 : zx_W σ17 := pσ17.2.2.2.2.2.2
      have hFσ17 : ∀ a i : Int, (¬ (a = 0 ∧ i = 30) ∧ ¬ (a = 0 ∧ i = 34) ∧ a ≠ 18 ∧ a ≠ 20) → σ17 a i = σ a i := fun a i h => (hfσ17 a i ⟨h.1, h.2.2.1⟩)
      have t4 := zx_g30 hσ
      have t5 := zx_g30 hσ17
      have zo : σ17 18 bits < σ17 0 3 := Mσ17 pσ17.2.2.2.1 bits (by omega) (by rw [hfσ17 0 2 (by omega)]; omega)
      have z3 := hfσ17 0 3 (by omega)
      have z33 := zx_g3 hσ
      have zow : zt_ow σ bits r17 := by have q := Wσ17 pσ17.2.2.2.1 bits (by omega) (by rw [hfσ17 0 2 (by omega)]; omega); rw [← pσ17.2.2.1] at q; exact zt_ow_fr (fun i => (hFσ17 2 i (by omega)).symm) (hFσ17 0 3 (by omega)).symm (hFσ17 0 2 (by omega)).symm q
      refine zr_istore_n (pc := 20) hV [some (ZR 0), some (ZI bits), some (ZI n), some (ZI r17)] dX12_text_20 rfl (by decide) rfl rfl ?_
      refine zr_iload_n (pc := 21) hV dX12_text_21 rfl rfl ?_
      refine zr_if_ge (pc := 22) hV 28 dX12_text_22 (by decide) (by omega) (fun c6 => ?_) (fun c6 => ?_)
      · show V 28 [some (ZR 0), some (ZI bits), some (ZI n), some (ZI r17)] [] 41 σ17
        refine zr_aload_n (pc := 28) hV dX12_text_28 rfl rfl ?_
        refine zr_iload_n (pc := 29) hV dX12_text_29 rfl rfl ?_
        refine zr_iload_n (pc := 30) hV dX12_text_30 rfl rfl ?_
        refine zr_callVv (pc := 31) hV [ZI r17, ZI bits] (st := []) (c_X12_writeLine2 (σ := σ17) hσ17 r17 bits (by omega) (by omega) (zx_B_fr (fun i => hFσ17 2 i (by omega)) (hFσ17 0 2 (by omega)) (Oσ r17 (by omega) (by omega)).2) (by rw [hfσ17 1 _ (by omega)]; exact q2 _ (by omega) (by omega))) dX12_text_31 mX12_403 rfl (by decide) (by decide) (Nat.le_of_ble_eq_true rfl) (Nat.le_refl _) (fun σ31 pσ31 => ?_)
        obtain ⟨hσ31, hfσ31, pσ31⟩ := pσ31
        have Mσ31 : zx_M σ31 := zx_M_fr (fun i => hfσ31 18 i (by omega)) (hfσ31 0 30 (by omega)) (hfσ31 0 2 (by omega)) (hfσ31 0 3 (by omega)) Mσ17
        have Oσ31 : zx_O σ31 := zx_O_fr (fun i => hfσ31 2 i (by omega)) (fun i => hfσ31 5 i (by omega)) (fun i => hfσ31 6 i (by omega)) (hfσ31 0 2 (by omega)) (hfσ31 0 3 (by omega)) Oσ17
        have Wσ31 : zx_W σ31 := zx_W_fr (fun i => hfσ31 18 i (by omega)) (hfσ31 0 30 (by omega)) (hfσ31 0 2 (by omega)) (hfσ31 0 3 (by omega)) (fun i => hfσ31 2 i (by omega)) Wσ17
        have hFσ31 : ∀ a i : Int, (¬ (a = 0 ∧ i = 30) ∧ ¬ (a = 0 ∧ i = 34) ∧ a ≠ 18 ∧ a ≠ 20) → σ31 a i = σ a i := fun a i h => (hfσ31 a i ⟨h.2.1, h.2.2.2⟩).trans (hFσ17 a i h)
        have e : zu_sr σ31 = zu_tr σ r17 bits (σ 20) := by rw [pσ31, zu_tr_fr (σ := σ) (fun i => hfσ17 2 i (by omega)) (hfσ17 0 2 (by omega)) (hfσ17 1 r17 (by omega)), show σ17 20 = σ 20 from funext (fun j => hfσ17 20 j (by omega))]
        have e0 : σ31 0 34 = (zu_tr σ r17 bits (σ 20)).1 := congrArg Prod.fst e
        have e1 : σ31 20 = (zu_tr σ r17 bits (σ 20)).2 := congrArg Prod.snd e
        refine zr_iload_n (pc := 34) hV dX12_text_34 rfl rfl ?_
        refine zr_if_ge (pc := 35) hV 45 dX12_text_35 (by decide) (by omega) (fun c7 => ?_) (fun c7 => ?_)
        · show V 45 [some (ZR 0), some (ZI bits), some (ZI n), some (ZI r17)] [] 41 σ31
          refine zr_iload_n (pc := 45) hV dX12_text_45 rfl rfl ?_
          refine zr_aload_n (pc := 46) hV dX12_text_46 rfl rfl ?_
          refine zr_getI (pc := 47) hV 34 dX12_text_47 fX12_396 rfl rfl rfl (by decide) ?_
          have t8 := zx_g34 hσ31
          refine zr_icmp_ge (pc := 50) hV 62 dX12_text_50 (by decide) (by omega) (by omega) (fun c9 => ?_) (fun c9 => ?_)
          · show V 62 [some (ZR 0), some (ZI bits), some (ZI n), some (ZI r17)] [] 41 σ31
            refine zr_iconst (pc := 62) hV (-1) dX12_text_62 rfl ?_
            show V 63 [some (ZR 0), some (ZI bits), some (ZI n), some (ZI r17)] [ZI (-1)] 41 σ31
            exact zr_iret (pc := 63) hV dX12_text_63 rfl rfl ⟨_, rfl, ⟨by decide, by decide⟩, hσ31, hFσ31, trivial, (show (¬ (0 ≤ bits ∧ bits < zx_p2 (σ 0 2) ∧ -1 ≤ n) → ((-1) : Int) = -1) ∧ ((0 ≤ bits ∧ bits < zx_p2 (σ 0 2) ∧ -1 ≤ n) → ∃ o, zt_ow σ bits o ∧ (o < 0 → ((-1) : Int) = -4) ∧ (0 ≤ o → zu_tq (zu_tr σ o bits (σ 20)) n ((-1) : Int))) from ⟨fun h => absurd (by omega) h, fun _ => ⟨r17, zow, fun h => absurd h (by omega), fun _ => ⟨fun h => absurd h (by omega), fun _ h => absurd h (by omega), fun _ _ => rfl⟩⟩⟩), Mσ31, Oσ31, Wσ31⟩
          · show V 53 [some (ZR 0), some (ZI bits), some (ZI n), some (ZI r17)] [] 41 σ31
            refine zr_aload_n (pc := 53) hV dX12_text_53 rfl rfl ?_
            refine zr_getR (pc := 54) hV 33 20 dX12_text_54 fX12_81 rfl rfl rfl (by decide) (zx_g33 hσ31) (by omega) ?_
            refine zr_iload_n (pc := 57) hV dX12_text_57 rfl rfl ?_
            refine zr_iald (pc := 58) hV dX12_text_58 rfl (by decide) rfl (by omega) ?_
            have t10 := zx_ga20 hσ31 n
            refine zr_goto (pc := 59) hV 63 dX12_text_59 (by decide) ?_
            show V 63 [some (ZR 0), some (ZI bits), some (ZI n), some (ZI r17)] [ZI (σ31 20 n)] 41 σ31
            exact zr_iret (pc := 63) hV dX12_text_63 rfl rfl ⟨_, rfl, (by omega), hσ31, hFσ31, trivial, (show (¬ (0 ≤ bits ∧ bits < zx_p2 (σ 0 2) ∧ -1 ≤ n) → (σ31 20 n) = -1) ∧ ((0 ≤ bits ∧ bits < zx_p2 (σ 0 2) ∧ -1 ≤ n) → ∃ o, zt_ow σ bits o ∧ (o < 0 → (σ31 20 n) = -4) ∧ (0 ≤ o → zu_tq (zu_tr σ o bits (σ 20)) n (σ31 20 n))) from ⟨fun h => absurd (by omega) h, fun _ => ⟨r17, zow, fun h => absurd h (by omega), fun _ => ⟨fun h => absurd h (by omega), fun _ _ => (by rw [e1]), fun _ h => absurd (by omega) h⟩⟩⟩), Mσ31, Oσ31, Wσ31⟩
        · show V 38 [some (ZR 0), some (ZI bits), some (ZI n), some (ZI r17)] [] 41 σ31
          refine zr_aload_n (pc := 38) hV dX12_text_38 rfl rfl ?_
          refine zr_getI (pc := 39) hV 34 dX12_text_39 fX12_396 rfl rfl rfl (by decide) ?_
          have t11 := zx_g34 hσ31
          refine zr_goto (pc := 42) hV 63 dX12_text_42 (by decide) ?_
          show V 63 [some (ZR 0), some (ZI bits), some (ZI n), some (ZI r17)] [ZI (σ31 0 34)] 41 σ31
          exact zr_iret (pc := 63) hV dX12_text_63 rfl rfl ⟨_, rfl, (by omega), hσ31, hFσ31, trivial, (show (¬ (0 ≤ bits ∧ bits < zx_p2 (σ 0 2) ∧ -1 ≤ n) → (σ31 0 34) = -1) ∧ ((0 ≤ bits ∧ bits < zx_p2 (σ 0 2) ∧ -1 ≤ n) → ∃ o, zt_ow σ bits o ∧ (o < 0 → (σ31 0 34) = -4) ∧ (0 ≤ o → zu_tq (zu_tr σ o bits (σ 20)) n (σ31 0 34))) from ⟨fun h => absurd (by omega) h, fun _ => ⟨r17, zow, fun h => absurd h (by omega), fun _ => ⟨fun _ => e0, fun h => absurd (by omega) h, fun h => absurd (by omega) h⟩⟩⟩), Mσ31, Oσ31, Wσ31⟩
      · show V 25 [some (ZR 0), some (ZI bits), some (ZI n), some (ZI r17)] [] 41 σ17
        refine zr_bipush (pc := 25) hV (-4) dX12_text_25 (by decide) ?_
        exact zr_iret (pc := 27) hV dX12_text_27 rfl rfl ⟨_, rfl, ⟨by decide, by decide⟩, hσ17, hFσ17, trivial, (show (¬ (0 ≤ bits ∧ bits < zx_p2 (σ 0 2) ∧ -1 ≤ n) → ((-4) : Int) = -1) ∧ ((0 ≤ bits ∧ bits < zx_p2 (σ 0 2) ∧ -1 ≤ n) → ∃ o, zt_ow σ bits o ∧ (o < 0 → ((-4) : Int) = -4) ∧ (0 ≤ o → zu_tq (zu_tr σ o bits (σ 20)) n ((-4) : Int))) from ⟨fun h => absurd (by omega) h, fun _ => ⟨r17, zow, fun _ => rfl, fun h => absurd h (by omega)⟩⟩), Mσ17, Oσ17, Wσ17⟩
    · show V 13 [some (ZR 0), some (ZI bits), some (ZI n), none] [] 41 σ
      refine zr_iconst (pc := 13) hV (-1) dX12_text_13 rfl ?_
      exact zr_iret (pc := 14) hV dX12_text_14 rfl rfl ⟨_, rfl, ⟨by decide, by decide⟩, hσ, (fun a i _ => rfl), trivial, (show (¬ (0 ≤ bits ∧ bits < zx_p2 (σ 0 2) ∧ -1 ≤ n) → ((-1) : Int) = -1) ∧ ((0 ≤ bits ∧ bits < zx_p2 (σ 0 2) ∧ -1 ≤ n) → ∃ o, zt_ow σ bits o ∧ (o < 0 → ((-1) : Int) = -4) ∧ (0 ≤ o → zu_tq (zu_tr σ o bits (σ 20)) n ((-1) : Int))) from ⟨fun _ => rfl, fun h => absurd h (by omega)⟩), Mσ, Oσ, Wσ⟩
