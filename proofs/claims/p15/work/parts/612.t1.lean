set_option maxHeartbeats 800000 in
theorem c_X12_flush2 {σ : zq_S} (hσ : zx_T σ) (n : Int) (q0 : zq_in n) : zq_C zx_w yX12_flush cX12_flush 3 (some .int) 1 25 41 41 [ZR 0, ZI n] σ (zq_pi (fun r τ => zx_T τ ∧ (∀ a i : Int, (¬ (a = 0 ∧ i = 29)) → τ a i = σ a i) ∧ ((0 ≤ n ∧ n ≤ 9 → r = σ 0 29 ∧ τ 0 29 = n) ∧ (¬ (0 ≤ n ∧ n ≤ 9) → r = -1 ∧ τ 0 29 = σ 0 29)))) := by
  refine zq_C_of (by decide) (Nat.le_refl _) (Nat.le_of_ble_eq_true rfl) [some (ZR 0), some (ZI n), none] rfl (fun V hV => ?_)
  show V 0 [some (ZR 0), some (ZI n), none] [] 41 σ
  refine zr_iload_n (pc := 0) hV dX12_flush_0 rfl rfl ?_
  refine zr_i2l (pc := 1) hV dX12_flush_1 (by omega) ?_
  refine zr_lconst (pc := 2) hV 0 dX12_flush_2 (by decide) ?_
  refine zr_ldc2 (pc := 3) (v := 9) hV 9 dX12_flush_3 kX12_388 (by decide) ?_
  refine zr_callSp (pc := 6) hV [ZL n, ZL 0, ZL 9] (st := []) (c_X12_in (σ := σ) n 0 9 (by omega) (by omega) (by omega)) dX12_flush_6 mX12_170 (by decide) (Nat.le_of_ble_eq_true rfl) (Nat.le_refl _) (fun r6 hr6 pr6 => ?_)
  refine zr_if_ne (pc := 9) hV 14 dX12_flush_9 (by decide) (by omega) (fun c1 => ?_) (fun c1 => ?_)
  · show V 14 [some (ZR 0), some (ZI n), none] [] 41 σ
    refine zr_aload_n (pc := 14) hV dX12_flush_14 rfl rfl ?_
    refine zr_getI (pc := 15) hV 29 dX12_flush_15 fX12_72 rfl rfl rfl (by decide) ?_
    have t2 := zx_g29 hσ
    refine zr_istore_n (pc := 18) hV [some (ZR 0), some (ZI n), some (ZI (σ 0 29))] dX12_flush_18 rfl (by decide) rfl rfl ?_
    refine zr_aload_n (pc := 19) hV dX12_flush_19 rfl rfl ?_
    refine zr_iload_n (pc := 20) hV dX12_flush_20 rfl rfl ?_
    refine zr_putI (pc := 21) hV 29 dX12_flush_21 fX12_72 rfl rfl rfl rfl (by decide) (fun σ21 eσ21 => ?_)
    have hσ21 : zx_T σ21 := zx_u29 eσ21 hσ (by omega)
    have hFσ21 : ∀ a i : Int, (¬ (a = 0 ∧ i = 29)) → σ21 a i = σ a i := fun a i h => by rw [eσ21, zq_up_ne h]
    refine zr_iload_n (pc := 24) hV dX12_flush_24 rfl rfl ?_
    have t3 := zx_g29 hσ21
    have t4 : σ21 0 29 = n := by rw [eσ21]; exact zq_up_same _ _ _ _
    exact zr_iret (pc := 25) hV dX12_flush_25 rfl rfl ⟨_, rfl, (by omega), hσ21, hFσ21, (by omega)⟩
  · show V 12 [some (ZR 0), some (ZI n), none] [] 41 σ
    refine zr_iconst (pc := 12) hV (-1) dX12_flush_12 rfl ?_
    have t5 := zx_g29 hσ
    exact zr_iret (pc := 13) hV dX12_flush_13 rfl rfl ⟨_, rfl, ⟨by decide, by decide⟩, hσ, (fun a i _ => rfl), (by omega)⟩
set_option maxHeartbeats 800000 in
theorem c_X12_variables3 {σ : zq_S} (hσ : zx_T σ) (v : Int) (q0 : zq_in v) (Uσ : zx_U σ) : zq_C zx_w yX12_variables cX12_variables 3 (some .int) 1 25 41 41 [ZR 0, ZI v] σ (zq_pi (fun r τ => zx_T τ ∧ (∀ a i : Int, (¬ (a = 0 ∧ i = 35) ∧ ¬ (a = 0 ∧ i = 36)) → τ a i = σ a i) ∧ ((1 ≤ v ∧ v ≤ zq_shl 1 (σ 0 1) → r = σ 0 35 ∧ τ 0 35 = v) ∧ (¬ (1 ≤ v ∧ v ≤ zq_shl 1 (σ 0 1)) → r = -1 ∧ τ 0 35 = σ 0 35)) ∧ zx_U τ)) := by
  refine zq_C_of (by decide) (Nat.le_refl _) (Nat.le_of_ble_eq_true rfl) [some (ZR 0), some (ZI v), none] rfl (fun V hV => ?_)
  show V 0 [some (ZR 0), some (ZI v), none] [] 41 σ
  refine zr_iload_n (pc := 0) hV dX12_variables_0 rfl rfl ?_
  refine zr_i2l (pc := 1) hV dX12_variables_1 (by omega) ?_
  refine zr_lconst (pc := 2) hV 1 dX12_variables_2 (by decide) ?_
  refine zr_iconst (pc := 3) hV 1 dX12_variables_3 rfl ?_
  refine zr_aload_n (pc := 4) hV dX12_variables_4 rfl rfl ?_
  refine zr_getI (pc := 5) hV 1 dX12_variables_5 fX12_13 rfl rfl rfl (by decide) ?_
  have t1 := zx_g1 hσ
  refine zr_ishl (pc := 8) hV dX12_variables_8 ?_
  have t2 := zx_shl_one (y := σ 0 1) 3 8 (by decide) (by decide) (by omega)
  refine zr_i2l (pc := 9) hV dX12_variables_9 (by omega) ?_
  refine zr_callSp (pc := 10) hV [ZL v, ZL 1, ZL (zq_shl 1 (σ 0 1))] (st := []) (c_X12_in (σ := σ) v 1 (zq_shl 1 (σ 0 1)) (by omega) (by omega) (by omega)) dX12_variables_10 mX12_170 (by decide) (Nat.le_of_ble_eq_true rfl) (Nat.le_refl _) (fun r10 hr10 pr10 => ?_)
  refine zr_if_ne (pc := 13) hV 18 dX12_variables_13 (by decide) (by omega) (fun c3 => ?_) (fun c3 => ?_)
  · show V 18 [some (ZR 0), some (ZI v), none] [] 41 σ
    refine zr_aload_n (pc := 18) hV dX12_variables_18 rfl rfl ?_
    refine zr_getI (pc := 19) hV 35 dX12_variables_19 fX12_84 rfl rfl rfl (by decide) ?_
    have t4 := zx_g35 hσ
    refine zr_istore_n (pc := 22) hV [some (ZR 0), some (ZI v), some (ZI (σ 0 35))] dX12_variables_22 rfl (by decide) rfl rfl ?_
    refine zr_aload_n (pc := 23) hV dX12_variables_23 rfl rfl ?_
    refine zr_iload_n (pc := 24) hV dX12_variables_24 rfl rfl ?_
    refine zr_putI (pc := 25) hV 35 dX12_variables_25 fX12_84 rfl rfl rfl rfl (by decide) (fun σ25 eσ25 => ?_)
    have hσ25 : zx_T σ25 := zx_u35 eσ25 hσ (by omega)
    have hFσ25 : ∀ a i : Int, (¬ (a = 0 ∧ i = 35) ∧ ¬ (a = 0 ∧ i = 36)) → σ25 a i = σ a i := fun a i h => by rw [eσ25, zq_up_ne h.1]
    have Uσ25 : zx_U σ25 := zx_U_fr (by rw [eσ25]; exact zq_up_ne (by omega)) (by rw [eσ25]; exact zq_up_ne (by omega)) (fun i => by rw [eσ25]; exact zq_up_ne (by omega)) (fun i => by rw [eσ25]; exact zq_up_ne (by omega)) (fun i => by rw [eσ25]; exact zq_up_ne (by omega)) Uσ
    refine zr_aload_n (pc := 28) hV dX12_variables_28 rfl rfl ?_
    refine zr_iconst (pc := 29) hV 0 dX12_variables_29 rfl ?_
    refine zr_putZ (pc := 30) hV 36 dX12_variables_30 fX12_160 rfl rfl rfl (by omega) rfl (by decide) (fun σ30 eσ30 => ?_)
    have hσ30 : zx_T σ30 := zx_u36 eσ30 hσ25 (by omega)
    have hFσ30 : ∀ a i : Int, (¬ (a = 0 ∧ i = 35) ∧ ¬ (a = 0 ∧ i = 36)) → σ30 a i = σ a i := fun a i h => by rw [eσ30, zq_up_ne h.2]; exact hFσ25 a i h
    have Uσ30 : zx_U σ30 := zx_U_0 (by rw [eσ30, zq_up_same])
    refine zr_iload_n (pc := 33) hV dX12_variables_33 rfl rfl ?_
    have t5 := zx_g35 hσ30
    have t6 : σ30 0 35 = σ25 0 35 := by rw [eσ30]; exact zq_up_ne (by omega)
    have t7 : σ25 0 35 = v := by rw [eσ25]; exact zq_up_same _ _ _ _
    exact zr_iret (pc := 34) hV dX12_variables_34 rfl rfl ⟨_, rfl, (by omega), hσ30, hFσ30, (by omega), Uσ30⟩
  · show V 16 [some (ZR 0), some (ZI v), none] [] 41 σ
    refine zr_iconst (pc := 16) hV (-1) dX12_variables_16 rfl ?_
    have t8 := zx_g35 hσ
    exact zr_iret (pc := 17) hV dX12_variables_17 rfl rfl ⟨_, rfl, ⟨by decide, by decide⟩, hσ, (fun a i _ => rfl), (by omega), Uσ⟩
set_option maxHeartbeats 800000 in
theorem c_X12_sheet2 {σ : zq_S} (hσ : zx_T σ) (sheet lane n : Int) (q0 : zq_in sheet) (q1 : zq_in lane) (q2 : zq_in n) : zq_C zx_w yX12_sheet cX12_sheet 5 (some .int) 2 46 41 41 [ZR 0, ZI sheet, ZI lane, ZI n] σ (zq_pi (fun r τ => zx_T τ ∧ (∀ a i : Int, (a ≠ 38 ∧ a ≠ 39 ∧ a ≠ 40) → τ a i = σ a i) ∧ (((0 ≤ sheet ∧ sheet ≤ 3 ∧ 0 ≤ lane ∧ lane ≤ 2 ∧ n ≤ 30 ∧ n < 0 → r = -14) ∧ (0 ≤ sheet ∧ sheet ≤ 3 ∧ 0 ≤ lane ∧ lane ≤ 2 ∧ n ≤ 30 ∧ 0 ≤ n → r = n) ∧ (¬ (0 ≤ sheet ∧ sheet ≤ 3 ∧ 0 ≤ lane ∧ lane ≤ 2 ∧ n ≤ 30) → r = -1))) ∧ zq_hid ((∀ j, τ 38 j = if 0 ≤ sheet ∧ sheet ≤ 3 ∧ 0 ≤ lane ∧ lane ≤ 2 ∧ n ≤ 30 ∧ 0 ≤ n ∧ j = sheet then lane else σ 38 j) ∧ (∀ j, τ 39 j = if 0 ≤ sheet ∧ sheet ≤ 3 ∧ 0 ≤ lane ∧ lane ≤ 2 ∧ n ≤ 30 ∧ 0 ≤ n ∧ j = sheet then n else σ 39 j)))) := by
  refine zq_C_of (by decide) (Nat.le_refl _) (Nat.le_of_ble_eq_true rfl) [some (ZR 0), some (ZI sheet), some (ZI lane), some (ZI n), none] rfl (fun V hV => ?_)
  show V 0 [some (ZR 0), some (ZI sheet), some (ZI lane), some (ZI n), none] [] 41 σ
  refine zr_iload_n (pc := 0) hV dX12_sheet_0 rfl rfl ?_
  refine zr_iload_n (pc := 1) hV dX12_sheet_1 rfl rfl ?_
  refine zr_callSp (pc := 2) hV [ZI sheet, ZI lane] (st := []) (c_X12_isSheet (σ := σ) sheet lane (by omega) (by omega)) dX12_sheet_2 mX12_480 (by decide) (Nat.le_of_ble_eq_true rfl) (Nat.le_refl _) (fun r2 hr2 pr2 => ?_)
  refine zr_if_eq (pc := 5) hV 14 dX12_sheet_5 (by decide) (by omega) (fun c1 => ?_) (fun c1 => ?_)
  · show V 14 [some (ZR 0), some (ZI sheet), some (ZI lane), some (ZI n), none] [] 41 σ
    refine zr_iconst (pc := 14) hV (-1) dX12_sheet_14 rfl ?_
    exact zr_iret (pc := 15) hV dX12_sheet_15 rfl rfl ⟨_, rfl, ⟨by decide, by decide⟩, hσ, (fun a i _ => rfl), (by omega), (show (∀ j, σ 38 j = if 0 ≤ sheet ∧ sheet ≤ 3 ∧ 0 ≤ lane ∧ lane ≤ 2 ∧ n ≤ 30 ∧ 0 ≤ n ∧ j = sheet then lane else σ 38 j) ∧ (∀ j, σ 39 j = if 0 ≤ sheet ∧ sheet ≤ 3 ∧ 0 ≤ lane ∧ lane ≤ 2 ∧ n ≤ 30 ∧ 0 ≤ n ∧ j = sheet then n else σ 39 j) from ⟨fun j => by rw [if_neg (by omega)], fun j => by rw [if_neg (by omega)]⟩)⟩
  · show V 8 [some (ZR 0), some (ZI sheet), some (ZI lane), some (ZI n), none] [] 41 σ
    refine zr_iload_n (pc := 8) hV dX12_sheet_8 rfl rfl ?_
    refine zr_bipush (pc := 9) hV 30 dX12_sheet_9 (by decide) ?_
    refine zr_icmp_le (pc := 11) hV 16 dX12_sheet_11 (by decide) (by omega) ⟨by decide, by decide⟩ (fun c2 => ?_) (fun c2 => ?_)
    · show V 16 [some (ZR 0), some (ZI sheet), some (ZI lane), some (ZI n), none] [] 41 σ
      refine zr_iload_n (pc := 16) hV dX12_sheet_16 rfl rfl ?_
      refine zr_if_ge (pc := 17) hV 23 dX12_sheet_17 (by decide) (by omega) (fun c3 => ?_) (fun c3 => ?_)
      · show V 23 [some (ZR 0), some (ZI sheet), some (ZI lane), some (ZI n), none] [] 41 σ
        refine zr_aload_n (pc := 23) hV dX12_sheet_23 rfl rfl ?_
        refine zr_getR (pc := 24) hV 62 38 dX12_sheet_24 fX12_138 rfl rfl rfl (by decide) (zx_g62 hσ) (by omega) ?_
        refine zr_iload_n (pc := 27) hV dX12_sheet_27 rfl rfl ?_
        refine zr_iload_n (pc := 28) hV dX12_sheet_28 rfl rfl ?_
        refine zr_iast (pc := 29) hV dX12_sheet_29 rfl (by decide) rfl (by omega) (fun σ29 eσ29 => ?_)
        have hσ29 : zx_T σ29 := zx_ua38 eσ29 hσ (by omega)
        have hFσ29 : ∀ a i : Int, (a ≠ 38 ∧ a ≠ 39 ∧ a ≠ 40) → σ29 a i = σ a i := fun a i h => by rw [eσ29, zq_up_ne (fun q => h.1 q.1)]
        refine zr_aload_n (pc := 30) hV dX12_sheet_30 rfl rfl ?_
        refine zr_getR (pc := 31) hV 63 39 dX12_sheet_31 fX12_141 rfl rfl rfl (by decide) (zx_g63 hσ29) (by omega) ?_
        refine zr_iload_n (pc := 34) hV dX12_sheet_34 rfl rfl ?_
        refine zr_iload_n (pc := 35) hV dX12_sheet_35 rfl rfl ?_
        refine zr_iast (pc := 36) hV dX12_sheet_36 rfl (by decide) rfl (by omega) (fun σ36 eσ36 => ?_)
        have hσ36 : zx_T σ36 := zx_ua39 eσ36 hσ29 (by omega)
        have hFσ36 : ∀ a i : Int, (a ≠ 38 ∧ a ≠ 39 ∧ a ≠ 40) → σ36 a i = σ a i := fun a i h => by rw [eσ36, zq_up_ne (fun q => h.2.1 q.1)]; exact hFσ29 a i h
        refine zr_iconst (pc := 37) hV 0 dX12_sheet_37 rfl ?_
        refine zr_istore (pc := 38) hV [some (ZR 0), some (ZI sheet), some (ZI lane), some (ZI n), some (ZI 0)] dX12_sheet_38 (by decide) rfl rfl ?_
        have L40 : ∀ (fuel : Nat) (x4_40 : Int) (σ_40 : zq_S), (0 ≤ x4_40 ∧ x4_40 ≤ 30) → (zx_T σ_40) → (∀ a i : Int, (a ≠ 38 ∧ a ≠ 39 ∧ a ≠ 40) → σ_40 a i = σ a i) → (zq_hid (∀ j, σ_40 38 j = if j = sheet then lane else σ 38 j)) → (zq_hid (∀ j, σ_40 39 j = if j = sheet then n else σ 39 j)) → 30 - x4_40 < (fuel : Int) → V 40 [some (ZR 0), some (ZI sheet), none, some (ZI n), some (ZI x4_40)] [] 41 σ_40 := by
          intro fuel
          induction fuel with
          | zero =>
            intro x4_40 σ_40 hx4_40 hσ_40 hFσ_40 hi40_0 hi40_1 hm40
            exfalso; omega
          | succ fuel ih =>
            intro x4_40 σ_40 hx4_40 hσ_40 hFσ_40 hi40_0 hi40_1 hm40
            have ih40 := ih
            show V 40 [some (ZR 0), some (ZI sheet), none, some (ZI n), some (ZI x4_40)] [] 41 σ_40
            refine zr_iload (pc := 40) hV dX12_sheet_40 rfl ?_
            refine zr_bipush (pc := 42) hV 30 dX12_sheet_42 (by decide) ?_
            refine zr_icmp_ge (pc := 44) hV 66 dX12_sheet_44 (by decide) (by omega) ⟨by decide, by decide⟩ (fun c4 => ?_) (fun c4 => ?_)
            · show V 66 [some (ZR 0), some (ZI sheet), none, some (ZI n), some (ZI x4_40)] [] 41 σ_40
              refine zr_iload_n (pc := 66) hV dX12_sheet_66 rfl rfl ?_
              exact zr_iret (pc := 67) hV dX12_sheet_67 rfl rfl ⟨_, rfl, (by omega), hσ_40, hFσ_40, (by omega), (show (∀ j, σ_40 38 j = if 0 ≤ sheet ∧ sheet ≤ 3 ∧ 0 ≤ lane ∧ lane ≤ 2 ∧ n ≤ 30 ∧ 0 ≤ n ∧ j = sheet then lane else σ 38 j) ∧ (∀ j, σ_40 39 j = if 0 ≤ sheet ∧ sheet ≤ 3 ∧ 0 ≤ lane ∧ lane ≤ 2 ∧ n ≤ 30 ∧ 0 ≤ n ∧ j = sheet then n else σ 39 j) from ⟨fun j => if h : j = sheet then (by rw [hi40_0 j, if_pos h, if_pos (by omega)]) else (by rw [hi40_0 j, if_neg h, if_neg (by omega)]), fun j => if h : j = sheet then (by rw [hi40_1 j, if_pos h, if_pos (by omega)]) else (by rw [hi40_1 j, if_neg h, if_neg (by omega)])⟩)⟩
            · show V 47 [some (ZR 0), some (ZI sheet), none, some (ZI n), some (ZI x4_40)] [] 41 σ_40
              refine zr_aload_n (pc := 47) hV dX12_sheet_47 rfl rfl ?_
              refine zr_getR (pc := 48) hV 64 40 dX12_sheet_48 fX12_144 rfl rfl rfl (by decide) (zx_g64 hσ_40) (by omega) ?_
              refine zr_bipush (pc := 51) hV 30 dX12_sheet_51 (by decide) ?_
              refine zr_iload_n (pc := 53) hV dX12_sheet_53 rfl rfl ?_
              refine zr_imul (pc := 54) hV dX12_sheet_54 ?_
              refine zr_iload (pc := 55) hV dX12_sheet_55 rfl ?_
              refine zr_iadd (pc := 57) hV dX12_sheet_57 ?_
              refine zr_iconst (pc := 58) hV 0 dX12_sheet_58 rfl ?_
              refine zr_iast (pc := 59) hV dX12_sheet_59 rfl (by decide) rfl (by omega) (fun σ59 eσ59 => ?_)
              have hσ59 : zx_T σ59 := zx_ua40 eσ59 hσ_40 (by omega)
              have hFσ59 : ∀ a i : Int, (a ≠ 38 ∧ a ≠ 39 ∧ a ≠ 40) → σ59 a i = σ a i := fun a i h => by rw [eσ59, zq_up_ne (fun q => h.2.2 q.1)]; exact hFσ_40 a i h
              refine zr_iinc (pc := 60) hV [some (ZR 0), some (ZI sheet), none, some (ZI n), some (ZI (x4_40 + 1))] (x4_40 + 1) dX12_sheet_60 rfl rfl (by decide) rfl rfl ?_
              refine zr_goto (pc := 63) hV 40 dX12_sheet_63 (by decide) ?_
              exact ih40 (x4_40 + 1) σ59 (by omega) hσ59 hFσ59 (fun j => by rw [eσ59, zq_up_ne (by omega)]; exact hi40_0 j) (fun j => by rw [eσ59, zq_up_ne (by omega)]; exact hi40_1 j) (by omega)
        refine zr_sub (pc := 40) hV [some (ZR 0), some (ZI sheet), none, some (ZI n), some (ZI 0)] (⟨rfl, rfl, rfl, rfl, trivial⟩) ?_
        exact L40 (30 - (0 : Int) + 1 : Int).toNat 0 σ36 (by omega) hσ36 hFσ36 (fun j => if h : j = sheet then (by rw [if_pos h, h, eσ36, zq_up_ne (by omega), eσ29, zq_up_same]) else (by rw [if_neg h, eσ36, zq_up_ne (by omega), eσ29, zq_up_ne (by omega)])) (fun j => if h : j = sheet then (by rw [if_pos h, h, eσ36, zq_up_same]) else (by rw [if_neg h, eσ36, zq_up_ne (by omega), eσ29, zq_up_ne (by omega)])) (by omega)
      · show V 20 [some (ZR 0), some (ZI sheet), some (ZI lane), some (ZI n), none] [] 41 σ
        refine zr_bipush (pc := 20) hV (-14) dX12_sheet_20 (by decide) ?_
        exact zr_iret (pc := 22) hV dX12_sheet_22 rfl rfl ⟨_, rfl, ⟨by decide, by decide⟩, hσ, (fun a i _ => rfl), (by omega), (show (∀ j, σ 38 j = if 0 ≤ sheet ∧ sheet ≤ 3 ∧ 0 ≤ lane ∧ lane ≤ 2 ∧ n ≤ 30 ∧ 0 ≤ n ∧ j = sheet then lane else σ 38 j) ∧ (∀ j, σ 39 j = if 0 ≤ sheet ∧ sheet ≤ 3 ∧ 0 ≤ lane ∧ lane ≤ 2 ∧ n ≤ 30 ∧ 0 ≤ n ∧ j = sheet then n else σ 39 j) from ⟨fun j => by rw [if_neg (by omega)], fun j => by rw [if_neg (by omega)]⟩)⟩
    · show V 14 [some (ZR 0), some (ZI sheet), some (ZI lane), some (ZI n), none] [] 41 σ
      refine zr_iconst (pc := 14) hV (-1) dX12_sheet_14 rfl ?_
      exact zr_iret (pc := 15) hV dX12_sheet_15 rfl rfl ⟨_, rfl, ⟨by decide, by decide⟩, hσ, (fun a i _ => rfl), (by omega), (show (∀ j, σ 38 j = if 0 ≤ sheet ∧ sheet ≤ 3 ∧ 0 ≤ lane ∧ lane ≤ 2 ∧ n ≤ 30 ∧ 0 ≤ n ∧ j = sheet then lane else σ 38 j) ∧ (∀ j, σ 39 j = if 0 ≤ sheet ∧ sheet ≤ 3 ∧ 0 ≤ lane ∧ lane ≤ 2 ∧ n ≤ 30 ∧ 0 ≤ n ∧ j = sheet then n else σ 39 j) from ⟨fun j => by rw [if_neg (by omega)], fun j => by rw [if_neg (by omega)]⟩)⟩
set_option maxHeartbeats 800000 in
theorem c_X12_drop2 {σ : zq_S} (hσ : zx_T σ) (sheet : Int) (q0 : zq_in sheet) : zq_C zx_w yX12_drop cX12_drop 2 (some .int) 1 25 41 41 [ZR 0, ZI sheet] σ (zq_pi (fun r τ => zx_T τ ∧ (∀ a i : Int, (a ≠ 38) → τ a i = σ a i) ∧ ((¬ (0 ≤ sheet ∧ sheet ≤ 3) → r = -1) ∧ (0 ≤ sheet ∧ sheet ≤ 3 → (σ 38 sheet < 0 → r = -11) ∧ (0 ≤ σ 38 sheet → r = σ 39 sheet))) ∧ zq_hid (∀ j, τ 38 j = if 0 ≤ sheet ∧ sheet ≤ 3 ∧ j = sheet then -1 else σ 38 j))) := by
  refine zq_C_of (by decide) (Nat.le_refl _) (Nat.le_of_ble_eq_true rfl) [some (ZR 0), some (ZI sheet)] rfl (fun V hV => ?_)
  show V 0 [some (ZR 0), some (ZI sheet)] [] 41 σ
  refine zr_iload_n (pc := 0) hV dX12_drop_0 rfl rfl ?_
  refine zr_i2l (pc := 1) hV dX12_drop_1 (by omega) ?_
  refine zr_lconst (pc := 2) hV 0 dX12_drop_2 (by decide) ?_
  refine zr_ldc2 (pc := 3) (v := 3) hV 3 dX12_drop_3 kX12_174 (by decide) ?_
  refine zr_callSp (pc := 6) hV [ZL sheet, ZL 0, ZL 3] (st := []) (c_X12_in (σ := σ) sheet 0 3 (by omega) (by omega) (by omega)) dX12_drop_6 mX12_170 (by decide) (Nat.le_of_ble_eq_true rfl) (Nat.le_refl _) (fun r6 hr6 pr6 => ?_)
  refine zr_if_ne (pc := 9) hV 14 dX12_drop_9 (by decide) (by omega) (fun c1 => ?_) (fun c1 => ?_)
  · show V 14 [some (ZR 0), some (ZI sheet)] [] 41 σ
    refine zr_aload_n (pc := 14) hV dX12_drop_14 rfl rfl ?_
    refine zr_getR (pc := 15) hV 62 38 dX12_drop_15 fX12_138 rfl rfl rfl (by decide) (zx_g62 hσ) (by omega) ?_
    refine zr_iload_n (pc := 18) hV dX12_drop_18 rfl rfl ?_
    refine zr_iald (pc := 19) hV dX12_drop_19 rfl (by decide) rfl (by omega) ?_
    have t2 := zx_ga38 hσ sheet
    refine zr_if_ge (pc := 20) hV 26 dX12_drop_20 (by decide) (by omega) (fun c3 => ?_) (fun c3 => ?_)
    · show V 26 [some (ZR 0), some (ZI sheet)] [] 41 σ
      refine zr_aload_n (pc := 26) hV dX12_drop_26 rfl rfl ?_
      refine zr_getR (pc := 27) hV 62 38 dX12_drop_27 fX12_138 rfl rfl rfl (by decide) (zx_g62 hσ) (by omega) ?_
      refine zr_iload_n (pc := 30) hV dX12_drop_30 rfl rfl ?_
      refine zr_iconst (pc := 31) hV (-1) dX12_drop_31 rfl ?_
      refine zr_iast (pc := 32) hV dX12_drop_32 rfl (by decide) rfl (by omega) (fun σ32 eσ32 => ?_)
      have hσ32 : zx_T σ32 := zx_ua38 eσ32 hσ (by omega)
      have hFσ32 : ∀ a i : Int, (a ≠ 38) → σ32 a i = σ a i := fun a i h => by rw [eσ32, zq_up_ne (fun q => h q.1)]
      refine zr_aload_n (pc := 33) hV dX12_drop_33 rfl rfl ?_
      refine zr_getR (pc := 34) hV 63 39 dX12_drop_34 fX12_141 rfl rfl rfl (by decide) (zx_g63 hσ32) (by omega) ?_
      refine zr_iload_n (pc := 37) hV dX12_drop_37 rfl rfl ?_
      refine zr_iald (pc := 38) hV dX12_drop_38 rfl (by decide) rfl (by omega) ?_
      have t4 := zx_ga39 hσ32 sheet
      have t5 : σ32 39 sheet = σ 39 sheet := by rw [eσ32]; exact zq_up_ne (by omega)
      exact zr_iret (pc := 39) hV dX12_drop_39 rfl rfl ⟨_, rfl, (by omega), hσ32, hFσ32, (by omega), (show ∀ j, σ32 38 j = if 0 ≤ sheet ∧ sheet ≤ 3 ∧ j = sheet then -1 else σ 38 j from (fun j => if h : j = sheet then (by rw [if_pos (by omega), h, eσ32, zq_up_same]) else (by rw [if_neg (by omega), eσ32, zq_up_ne (by omega)])))⟩
    · show V 23 [some (ZR 0), some (ZI sheet)] [] 41 σ
      refine zr_bipush (pc := 23) hV (-11) dX12_drop_23 (by decide) ?_
      exact zr_iret (pc := 25) hV dX12_drop_25 rfl rfl ⟨_, rfl, ⟨by decide, by decide⟩, hσ, (fun a i _ => rfl), (by omega), (show ∀ j, σ 38 j = if 0 ≤ sheet ∧ sheet ≤ 3 ∧ j = sheet then -1 else σ 38 j from (fun j => if h : j = sheet then (if g : 0 ≤ sheet ∧ sheet ≤ 3 then (by rw [if_pos (by omega), h]; omega) else (by rw [if_neg (by omega)])) else (by rw [if_neg (by omega)])))⟩
  · show V 12 [some (ZR 0), some (ZI sheet)] [] 41 σ
    refine zr_iconst (pc := 12) hV (-1) dX12_drop_12 rfl ?_
    exact zr_iret (pc := 13) hV dX12_drop_13 rfl rfl ⟨_, rfl, ⟨by decide, by decide⟩, hσ, (fun a i _ => rfl), (by omega), (show ∀ j, σ 38 j = if 0 ≤ sheet ∧ sheet ≤ 3 ∧ j = sheet then -1 else σ 38 j from (fun j => if h : j = sheet then (if g : 0 ≤ sheet ∧ sheet ≤ 3 then (by rw [if_pos (by omega), h]; omega) else (by rw [if_neg (by omega)])) else (by rw [if_neg (by omega)])))⟩
set_option maxHeartbeats 800000 in
theorem c_X12_against2 {σ : zq_S} (hσ : zx_T σ) (sheet lane from_ many : Int) (q0 : 0 ≤ sheet ∧ sheet ≤ 3) (q1 : zq_in lane) (q2 : zq_in from_) (q3 : 0 ≤ many ∧ many ≤ 30) : zq_C zx_w yX12_against cX12_against 5 (some .int) 1 25 41 41 [ZR 0, ZI sheet, ZI lane, ZI from_, ZI many] σ (zq_pp σ (fun r => (r ≤ 0 ∧ (r = 0 → 0 ≤ from_ ∧ from_ + many ≤ 30)) ∧ ((σ 38 sheet ≠ lane → (σ 38 sheet < 0 → r = -11) ∧ (0 ≤ σ 38 sheet → r = -12)) ∧ (σ 38 sheet = lane → (0 ≤ from_ ∧ from_ ≤ σ 39 sheet - many → r = 0) ∧ (¬ (0 ≤ from_ ∧ from_ ≤ σ 39 sheet - many) → r = -13))))) := by
  refine zq_C_of (by decide) (Nat.le_refl _) (Nat.le_of_ble_eq_true rfl) [some (ZR 0), some (ZI sheet), some (ZI lane), some (ZI from_), some (ZI many)] rfl (fun V hV => ?_)
  show V 0 [some (ZR 0), some (ZI sheet), some (ZI lane), some (ZI from_), some (ZI many)] [] 41 σ
  refine zr_aload_n (pc := 0) hV dX12_against_0 rfl rfl ?_
  refine zr_getR (pc := 1) hV 62 38 dX12_against_1 fX12_138 rfl rfl rfl (by decide) (zx_g62 hσ) (by omega) ?_
  refine zr_iload_n (pc := 4) hV dX12_against_4 rfl rfl ?_
  refine zr_iald (pc := 5) hV dX12_against_5 rfl (by decide) rfl (by omega) ?_
  have t1 := zx_ga38 hσ sheet
  refine zr_iload_n (pc := 6) hV dX12_against_6 rfl rfl ?_
  refine zr_icmp_eq (pc := 7) hV 27 dX12_against_7 (by decide) (by omega) (by omega) (fun c2 => ?_) (fun c2 => ?_)
  · show V 27 [some (ZR 0), some (ZI sheet), some (ZI lane), some (ZI from_), some (ZI many)] [] 41 σ
    refine zr_iload_n (pc := 27) hV dX12_against_27 rfl rfl ?_
    refine zr_i2l (pc := 28) hV dX12_against_28 (by omega) ?_
    refine zr_lconst (pc := 29) hV 0 dX12_against_29 (by decide) ?_
    refine zr_aload_n (pc := 30) hV dX12_against_30 rfl rfl ?_
    refine zr_getR (pc := 31) hV 63 39 dX12_against_31 fX12_141 rfl rfl rfl (by decide) (zx_g63 hσ) (by omega) ?_
    refine zr_iload_n (pc := 34) hV dX12_against_34 rfl rfl ?_
    refine zr_iald (pc := 35) hV dX12_against_35 rfl (by decide) rfl (by omega) ?_
    have t3 := zx_ga39 hσ sheet
    refine zr_iload (pc := 36) hV dX12_against_36 rfl ?_
    refine zr_isub (pc := 38) hV dX12_against_38 ?_
    refine zr_i2l (pc := 39) hV dX12_against_39 (by omega) ?_
    refine zr_callSp (pc := 40) hV [ZL from_, ZL 0, ZL ((σ 39 sheet) - many)] (st := []) (c_X12_in (σ := σ) from_ 0 ((σ 39 sheet) - many) (by omega) (by omega) (by omega)) dX12_against_40 mX12_170 (by decide) (Nat.le_of_ble_eq_true rfl) (Nat.le_refl _) (fun r40 hr40 pr40 => ?_)
    refine zr_if_eq (pc := 43) hV 50 dX12_against_43 (by decide) (by omega) (fun c4 => ?_) (fun c4 => ?_)
    · show V 50 [some (ZR 0), some (ZI sheet), some (ZI lane), some (ZI from_), some (ZI many)] [] 41 σ
      refine zr_bipush (pc := 50) hV (-13) dX12_against_50 (by decide) ?_
      show V 52 [some (ZR 0), some (ZI sheet), some (ZI lane), some (ZI from_), some (ZI many)] [ZI (-13)] 41 σ
      exact zr_iret (pc := 52) hV dX12_against_52 rfl rfl ⟨rfl, _, rfl, ⟨by decide, by decide⟩, (by omega)⟩
    · show V 46 [some (ZR 0), some (ZI sheet), some (ZI lane), some (ZI from_), some (ZI many)] [] 41 σ
      refine zr_iconst (pc := 46) hV 0 dX12_against_46 rfl ?_
      refine zr_goto (pc := 47) hV 52 dX12_against_47 (by decide) ?_
      show V 52 [some (ZR 0), some (ZI sheet), some (ZI lane), some (ZI from_), some (ZI many)] [ZI 0] 41 σ
      exact zr_iret (pc := 52) hV dX12_against_52 rfl rfl ⟨rfl, _, rfl, ⟨by decide, by decide⟩, (by omega)⟩
  · show V 10 [some (ZR 0), some (ZI sheet), some (ZI lane), some (ZI from_), some (ZI many)] [] 41 σ
    refine zr_aload_n (pc := 10) hV dX12_against_10 rfl rfl ?_
    refine zr_getR (pc := 11) hV 62 38 dX12_against_11 fX12_138 rfl rfl rfl (by decide) (zx_g62 hσ) (by omega) ?_
    refine zr_iload_n (pc := 14) hV dX12_against_14 rfl rfl ?_
    refine zr_iald (pc := 15) hV dX12_against_15 rfl (by decide) rfl (by omega) ?_
    have t5 := zx_ga38 hσ sheet
    refine zr_if_ge (pc := 16) hV 24 dX12_against_16 (by decide) (by omega) (fun c6 => ?_) (fun c6 => ?_)
    · show V 24 [some (ZR 0), some (ZI sheet), some (ZI lane), some (ZI from_), some (ZI many)] [] 41 σ
      refine zr_bipush (pc := 24) hV (-12) dX12_against_24 (by decide) ?_
      show V 26 [some (ZR 0), some (ZI sheet), some (ZI lane), some (ZI from_), some (ZI many)] [ZI (-12)] 41 σ
      exact zr_iret (pc := 26) hV dX12_against_26 rfl rfl ⟨rfl, _, rfl, ⟨by decide, by decide⟩, (by omega)⟩
    · show V 19 [some (ZR 0), some (ZI sheet), some (ZI lane), some (ZI from_), some (ZI many)] [] 41 σ
      refine zr_bipush (pc := 19) hV (-11) dX12_against_19 (by decide) ?_
      refine zr_goto (pc := 21) hV 26 dX12_against_21 (by decide) ?_
      show V 26 [some (ZR 0), some (ZI sheet), some (ZI lane), some (ZI from_), some (ZI many)] [ZI (-11)] 41 σ
      exact zr_iret (pc := 26) hV dX12_against_26 rfl rfl ⟨rfl, _, rfl, ⟨by decide, by decide⟩, (by omega)⟩
set_option maxHeartbeats 800000 in
theorem c_X12_item2 {σ : zq_S} (hσ : zx_T σ) (sheet lane i v : Int) (q0 : zq_in sheet) (q1 : zq_in lane) (q2 : zq_in i) (q3 : zq_in v) : zq_C zx_w yX12_item cX12_item 6 (some .int) 2 49 41 41 [ZR 0, ZI sheet, ZI lane, ZI i, ZI v] σ (zq_pi (fun r τ => zx_T τ ∧ (∀ a i : Int, (a ≠ 40) → τ a i = σ a i) ∧ ((¬ (0 ≤ sheet ∧ sheet ≤ 3 ∧ 0 ≤ lane ∧ lane ≤ 2) → r = -1) ∧ (0 ≤ sheet ∧ sheet ≤ 3 ∧ 0 ≤ lane ∧ lane ≤ 2 → (σ 38 sheet ≠ lane → (σ 38 sheet < 0 → r = -11) ∧ (0 ≤ σ 38 sheet → r = -12)) ∧ (σ 38 sheet = lane → (0 ≤ i ∧ i ≤ σ 39 sheet - 1 → r = 1) ∧ (¬ (0 ≤ i ∧ i ≤ σ 39 sheet - 1) → r = -13)))))) := by
  refine zq_C_of (by decide) (Nat.le_refl _) (Nat.le_of_ble_eq_true rfl) [some (ZR 0), some (ZI sheet), some (ZI lane), some (ZI i), some (ZI v), none] rfl (fun V hV => ?_)
  show V 0 [some (ZR 0), some (ZI sheet), some (ZI lane), some (ZI i), some (ZI v), none] [] 41 σ
  refine zr_iload_n (pc := 0) hV dX12_item_0 rfl rfl ?_
  refine zr_iload_n (pc := 1) hV dX12_item_1 rfl rfl ?_
  refine zr_callSp (pc := 2) hV [ZI sheet, ZI lane] (st := []) (c_X12_isSheet (σ := σ) sheet lane (by omega) (by omega)) dX12_item_2 mX12_480 (by decide) (Nat.le_of_ble_eq_true rfl) (Nat.le_refl _) (fun r2 hr2 pr2 => ?_)
  refine zr_if_ne (pc := 5) hV 10 dX12_item_5 (by decide) (by omega) (fun c1 => ?_) (fun c1 => ?_)
  · show V 10 [some (ZR 0), some (ZI sheet), some (ZI lane), some (ZI i), some (ZI v), none] [] 41 σ
    refine zr_aload_n (pc := 10) hV dX12_item_10 rfl rfl ?_
    refine zr_iload_n (pc := 11) hV dX12_item_11 rfl rfl ?_
    refine zr_iload_n (pc := 12) hV dX12_item_12 rfl rfl ?_
    refine zr_iload_n (pc := 13) hV dX12_item_13 rfl rfl ?_
    refine zr_iconst (pc := 14) hV 1 dX12_item_14 rfl ?_
    refine zr_callVp (pc := 15) hV [ZI sheet, ZI lane, ZI i, ZI 1] (st := []) (c_X12_against2 (σ := σ) hσ sheet lane i 1 (by omega) (by omega) (by omega) (by omega)) dX12_item_15 mX12_485 rfl (by decide) (by decide) (Nat.le_of_ble_eq_true rfl) (Nat.le_refl _) (fun r15 hr15 pr15 => ?_)
    refine zr_istore (pc := 18) hV [some (ZR 0), some (ZI sheet), some (ZI lane), some (ZI i), some (ZI v), some (ZI r15)] dX12_item_18 (by decide) rfl rfl ?_
    refine zr_iload (pc := 20) hV dX12_item_20 rfl ?_
    refine zr_if_ge (pc := 22) hV 28 dX12_item_22 (by decide) (by omega) (fun c2 => ?_) (fun c2 => ?_)
    · show V 28 [some (ZR 0), some (ZI sheet), some (ZI lane), some (ZI i), some (ZI v), some (ZI r15)] [] 41 σ
      refine zr_aload_n (pc := 28) hV dX12_item_28 rfl rfl ?_
      refine zr_getR (pc := 29) hV 64 40 dX12_item_29 fX12_144 rfl rfl rfl (by decide) (zx_g64 hσ) (by omega) ?_
      refine zr_bipush (pc := 32) hV 30 dX12_item_32 (by decide) ?_
      refine zr_iload_n (pc := 34) hV dX12_item_34 rfl rfl ?_
      refine zr_imul (pc := 35) hV dX12_item_35 ?_
      refine zr_iload_n (pc := 36) hV dX12_item_36 rfl rfl ?_
      refine zr_iadd (pc := 37) hV dX12_item_37 ?_
      refine zr_iload_n (pc := 38) hV dX12_item_38 rfl rfl ?_
      refine zr_if_ne (pc := 39) hV 53 dX12_item_39 (by decide) (by omega) (fun c3 => ?_) (fun c3 => ?_)
      · show V 53 [some (ZR 0), some (ZI sheet), some (ZI lane), some (ZI i), some (ZI v), some (ZI r15)] [ZI ((30 * sheet) + i), ZR 40] 41 σ
        refine zr_iload_n (pc := 53) hV dX12_item_53 rfl rfl ?_
        refine zr_iconst (pc := 54) hV 1 dX12_item_54 rfl ?_
        refine zr_icmp_ne (pc := 55) hV 69 dX12_item_55 (by decide) (by omega) ⟨by decide, by decide⟩ (fun c4 => ?_) (fun c4 => ?_)
        · show V 69 [some (ZR 0), some (ZI sheet), some (ZI lane), some (ZI i), some (ZI v), some (ZI r15)] [ZI ((30 * sheet) + i), ZR 40] 41 σ
          refine zr_iload (pc := 69) hV dX12_item_69 rfl ?_
          show V 71 [some (ZR 0), some (ZI sheet), some (ZI lane), some (ZI i), some (ZI v), some (ZI r15)] [ZI v, ZI ((30 * sheet) + i), ZR 40] 41 σ
          refine zr_iast (pc := 71) hV dX12_item_71 rfl (by decide) rfl (by omega) (fun σ71 eσ71 => ?_)
          have hσ71 : zx_T σ71 := zx_ua40 eσ71 hσ (by omega)
          have hFσ71 : ∀ a i : Int, (a ≠ 40) → σ71 a i = σ a i := fun a i h => by rw [eσ71, zq_up_ne (fun q => h q.1)]
          refine zr_iconst (pc := 72) hV 1 dX12_item_72 rfl ?_
          exact zr_iret (pc := 73) hV dX12_item_73 rfl rfl ⟨_, rfl, ⟨by decide, by decide⟩, hσ71, hFσ71, (by omega)⟩
        · show V 58 [some (ZR 0), some (ZI sheet), some (ZI lane), some (ZI i), some (ZI v), some (ZI r15)] [ZI ((30 * sheet) + i), ZR 40] 41 σ
          refine zr_iload (pc := 58) hV dX12_item_58 rfl ?_
          refine zr_bipush (pc := 60) hV 16 dX12_item_60 (by decide) ?_
          refine zr_ishl (pc := 62) hV dX12_item_62 ?_
          have t5 := zq_shl_in v 16
          refine zr_bipush (pc := 63) hV 16 dX12_item_63 (by decide) ?_
          refine zr_ishr (pc := 65) hV dX12_item_65 ?_
          have t6 := zq_shr_in (zq_shl v 16) 16
          refine zr_goto (pc := 66) hV 71 dX12_item_66 (by decide) ?_
          show V 71 [some (ZR 0), some (ZI sheet), some (ZI lane), some (ZI i), some (ZI v), some (ZI r15)] [ZI (zq_shr (zq_shl v 16) 16), ZI ((30 * sheet) + i), ZR 40] 41 σ
          refine zr_iast (pc := 71) hV dX12_item_71 rfl (by decide) rfl (by omega) (fun σ71 eσ71 => ?_)
          have hσ71 : zx_T σ71 := zx_ua40 eσ71 hσ (by omega)
          have hFσ71 : ∀ a i : Int, (a ≠ 40) → σ71 a i = σ a i := fun a i h => by rw [eσ71, zq_up_ne (fun q => h q.1)]
          refine zr_iconst (pc := 72) hV 1 dX12_item_72 rfl ?_
          exact zr_iret (pc := 73) hV dX12_item_73 rfl rfl ⟨_, rfl, ⟨by decide, by decide⟩, hσ71, hFσ71, (by omega)⟩
      · show V 42 [some (ZR 0), some (ZI sheet), some (ZI lane), some (ZI i), some (ZI v), some (ZI r15)] [ZI ((30 * sheet) + i), ZR 40] 41 σ
        refine zr_iload (pc := 42) hV dX12_item_42 rfl ?_
        refine zr_bipush (pc := 44) hV 24 dX12_item_44 (by decide) ?_
        refine zr_ishl (pc := 46) hV dX12_item_46 ?_
        have t7 := zq_shl_in v 24
        refine zr_bipush (pc := 47) hV 24 dX12_item_47 (by decide) ?_
        refine zr_ishr (pc := 49) hV dX12_item_49 ?_
        have t8 := zq_shr_in (zq_shl v 24) 24
        refine zr_goto (pc := 50) hV 71 dX12_item_50 (by decide) ?_
        show V 71 [some (ZR 0), some (ZI sheet), some (ZI lane), some (ZI i), some (ZI v), some (ZI r15)] [ZI (zq_shr (zq_shl v 24) 24), ZI ((30 * sheet) + i), ZR 40] 41 σ
        refine zr_iast (pc := 71) hV dX12_item_71 rfl (by decide) rfl (by omega) (fun σ71 eσ71 => ?_)
        have hσ71 : zx_T σ71 := zx_ua40 eσ71 hσ (by omega)
        have hFσ71 : ∀ a i : Int, (a ≠ 40) → σ71 a i = σ a i := fun a i h => by rw [eσ71, zq_up_ne (fun q => h q.1)]
        refine zr_iconst (pc := 72) hV 1 dX12_item_72 rfl ?_
        exact zr_iret (pc := 73) hV dX12_item_73 rfl rfl ⟨_, rfl, ⟨by decide, by decide⟩, hσ71, hFσ71, (by omega)⟩
    · show V 25 [some (ZR 0), some (ZI sheet), some (ZI lane), some (ZI i), some (ZI v), some (ZI r15)] [] 41 σ
      refine zr_iload (pc := 25) hV dX12_item_25 rfl ?_
      exact zr_iret (pc := 27) hV dX12_item_27 rfl rfl ⟨_, rfl, (by omega), hσ, (fun a i _ => rfl), (by omega)⟩
  · show V 8 [some (ZR 0), some (ZI sheet), some (ZI lane), some (ZI i), some (ZI v), none] [] 41 σ
    refine zr_iconst (pc := 8) hV (-1) dX12_item_8 rfl ?_
    exact zr_iret (pc := 9) hV dX12_item_9 rfl rfl ⟨_, rfl, ⟨by decide, by decide⟩, hσ, (fun a i _ => rfl), (by omega)⟩

