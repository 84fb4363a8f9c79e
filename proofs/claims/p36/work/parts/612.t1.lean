set_option maxHeartbeats 800000 in
theorem c_X12_flush2 {σ : zq_S} (hσ : zx_T σ) (n : Int) (q0 : zq_in n) : zq_C zx_w yX12_flush cX12_flush 3 (some .int) 1 25 41 41 [ZR 0, ZI n] σ (zq_pi (fun r τ => zx_T τ ∧ (∀ a i : Int, (¬ (a = 0 ∧ i = 29)) → τ a i = σ a i) ∧ ((0 ≤ n ∧ n ≤ 9 → r = σ 0 29 ∧ τ 0 29 = n) ∧ (¬ (0 ≤ n ∧ n ≤ 9) → r = -1 ∧ τ 0 29 = σ 0 29)))) := by
  refine zq_C_of (by decide) (Nat.le_refl _) (Nat.le_of_ble_eq_true rfl) [some (ZR 0), some (ZI n), none] rfl (fun V hV => ?_)
  show V 0 [some (ZR 0), some (ZI n), none] [] 41 σ
  refine zr_iload_n (pc := 0) hV dX12_flush_0 rfl rfl ?_
  refine zr_i2l (pc := 1) hV dX12_flush_1 (by omega) ?_
  refine zr_lconst (pc := 2) hV 0 dX12_flush_2 (by decide) ?_
  refine zr_ldc2 (pc := 3) (v := 9) hV 9 dX12_flush_3 kX12_388 (by decide) ?_
  refine zr_callSp (pc := 6) hV [ZL n, ZL 0, ZL 9] (st := []) (c_X12_in (σ := σ) n 0 9 (by omega) (by omega) (by omega)) dX12_flush_6 mX12_170 (by decide) (Nat.le_of_ble_eq_true rfl) (Nat.le_refl _) (fun r6 hr6 pr6 => ?_)
  refine zr_if_ne (pc := 9) hV 14 dX12_flush_9 (by decide) (by omega) (fun c1 => ?_) (fun c1 => ?_)
  · show V 14 [some (ZR 0), some (ZI n), none] [] 41 σ
    refine zr_aload_n (pc := 14) hV dX12_flush_14 rfl rfl ?_
    refine zr_getI (pc := 15) hV 29 dX12_flush_15 fX12_72 rfl rfl rfl (by decide) ?_
    have t2 := zx_g29 hσ
    refine zr_istore_n (pc := 18) hV [some (ZR 0), some (ZI n), some (ZI (σ 0 29))] dX12_flush_18 rfl (by decide) rfl rfl ?_
    refine zr_aload_n (pc := 19) hV dX12_flush_19 rfl rfl ?_
    refine zr_iload_n (pc := 20) hV dX12_flush_20 rfl rfl ?_
    refine zr_putI (pc := 21) hV 29 dX12_flush_21 fX12_72 rfl rfl rfl rfl (by decide) (fun σ21 eσ21 => ?_)
    have hσ21 : zx_T σ21 := zx_u29 eσ21 hσ (by omega)
    have hFσ21 : ∀ a i : Int, (¬ (a = 0 ∧ i = 29)) → σ21 a i = σ a i := fun a i h => by rw [eσ21, zq_up_ne h]
    refine zr_iload_n (pc := 24) hV dX12_flush_24 rfl rfl ?_
    have t3 := zx_g29 hσ21
    have t4 : σ21 0 29 = n := by rw [eσ21]; exact zq_up_same _ _ _ _
    exact zr_iret (pc := 25) hV dX12_flush_25 rfl rfl ⟨_, rfl, (by omega), hσ21, hFσ21, (by omega)⟩
  · show V 12 [some (ZR 0), some (ZI n), none] [] 41 σ
    refine zr_iconst (pc := 12) hV (-1) dX12_flush_12 rfl ?_
    have t5 := zx_g29 hσ
    exact zr_iret (pc := 13) hV dX12_flush_13 rfl rfl ⟨_, rfl, ⟨by decide, by decide⟩, hσ, (fun a i _ => rfl), (by omega)⟩
set_option maxHeartbeats 800000 in
theorem c_X12_drop2 {σ : zq_S} (hσ : zx_T σ) (sheet : Int) (q0 : zq_in sheet) : zq_C zx_w yX12_drop cX12_drop 2 (some .int) 1 25 41 41 [ZR 0, ZI sheet] σ (zq_pi (fun r τ => zx_T τ ∧ (∀ a i : Int, (a ≠ 38) → τ a i = σ a i) ∧ ((¬ (0 ≤ sheet ∧ sheet ≤ 3) → r = -1) ∧ (0 ≤ sheet ∧ sheet ≤ 3 → (σ 38 sheet < 0 → r = -11) ∧ (0 ≤ σ 38 sheet → r = σ 39 sheet))) ∧ zq_hid (∀ j, τ 38 j = if 0 ≤ sheet ∧ sheet ≤ 3 ∧ j = sheet then -1 else σ 38 j))) := by
  refine zq_C_of (by decide) (Nat.le_refl _) (Nat.le_of_ble_eq_true rfl) [some (ZR 0), some (ZI sheet)] rfl (fun V hV => ?_)
  show V 0 [some (ZR 0), some (ZI sheet)] [] 41 σ
  refine zr_iload_n (pc := 0) hV dX12_drop_0 rfl rfl ?_
  refine zr_i2l (pc := 1) hV dX12_drop_1 (by omega) ?_
  refine zr_lconst (pc := 2) hV 0 dX12_drop_2 (by decide) ?_
  refine zr_ldc2 (pc := 3) (v := 3) hV 3 dX12_drop_3 kX12_174 (by decide) ?_
  refine zr_callSp (pc := 6) hV [ZL sheet, ZL 0, ZL 3] (st := []) (c_X12_in (σ := σ) sheet 0 3 (by omega) (by omega) (by omega)) dX12_drop_6 mX12_170 (by decide) (Nat.le_of_ble_eq_true rfl) (Nat.le_refl _) (fun r6 hr6 pr6 => ?_)
  refine zr_if_ne (pc := 9) hV 14 dX12_drop_9 (by decide) (by omega) (fun c1 => ?_) (fun c1 => ?_)
  · show V 14 [some (ZR 0), some (ZI sheet)] [] 41 σ
    refine zr_aload_n (pc := 14) hV dX12_drop_14 rfl rfl ?_
    refine zr_getR (pc := 15) hV 62 38 dX12_drop_15 fX12_138 rfl rfl rfl (by decide) (zx_g62 hσ) (by omega) ?_
    refine zr_iload_n (pc := 18) hV dX12_drop_18 rfl rfl ?_
    refine zr_iald (pc := 19) hV dX12_drop_19 rfl (by decide) rfl (by omega) ?_
    have t2 := zx_ga38 hσ sheet
    refine zr_if_ge (pc := 20) hV 26 dX12_drop_20 (by decide) (by omega) (fun c3 => ?_) (fun c3 => ?_)
    · show V 26 [some (ZR 0), some (ZI sheet)] [] 41 σ
      refine zr_aload_n (pc := 26) hV dX12_drop_26 rfl rfl ?_
      refine zr_getR (pc := 27) hV 62 38 dX12_drop_27 fX12_138 rfl rfl rfl (by decide) (zx_g62 hσ) (by omega) ?_
      refine zr_iload_n (pc := 30) hV dX12_drop_30 rfl rfl ?_
      refine zr_iconst (pc := 31) hV (-1) dX12_drop_31 rfl ?_
      refine zr_iast (pc := 32) hV dX12_drop_32 rfl (by decide) rfl (by omega) (fun σ32 eσ32 => ?_)
      have hσ32 : zx_T σ32 := zx_ua38 eσ32 hσ (by omega)
      have hFσ32 : ∀ a i : Int, (a ≠ 38) → σ32 a i = σ a i := fun a i h => by rw [eσ32, zq_up_ne (fun q => h q.1)]
      refine zr_aload_n (pc := 33) hV dX12_drop_33 rfl rfl ?_
      refine zr_getR (pc := 34) hV 63 39 dX12_drop_34 fX12_141 rfl rfl rfl (by decide) (zx_g63 hσ32) (by omega) ?_
      refine zr_iload_n (pc := 37) hV dX12_drop_37 rfl rfl ?_
      refine zr_iald (pc := 38) hV dX12_drop_38 rfl (by decide) rfl (by omega) ?_
      have t4 := zx_ga39 hσ32 sheet
      have t5 : σ32 39 sheet = σ 39 sheet := by rw [eσ32]; exact zq_up_ne (by omega)
      exact zr_iret (pc := 39) hV dX12_drop_39 rfl rfl ⟨_, rfl, (by omega), hσ32, hFσ32, (by omega), (show ∀ j, σ32 38 j = if 0 ≤ sheet ∧ sheet ≤ 3 ∧ j = sheet then -1 else σ 38 j from (fun j => if h : j = sheet then (by rw [if_pos (by omega), h, eσ32, zq_up_same]) else (by rw [if_neg (by omega), eσ32, zq_up_ne (by omega)])))⟩
    · show V 23 [some (ZR 0), some (ZI sheet)] [] 41 σ
      refine zr_bipush (pc := 23) hV (-11) dX12_drop_23 (by decide) ?_
      exact zr_iret (pc := 25) hV dX12_drop_25 rfl rfl ⟨_, rfl, ⟨by decide, by decide⟩, hσ, (fun a i _ => rfl), (by omega), (show ∀ j, σ 38 j = if 0 ≤ sheet ∧ sheet ≤ 3 ∧ j = sheet then -1 else σ 38 j from (fun j => if h : j = sheet then (if g : 0 ≤ sheet ∧ sheet ≤ 3 then (by rw [if_pos (by omega), h]; omega) else (by rw [if_neg (by omega)])) else (by rw [if_neg (by omega)])))⟩
  · show V 12 [some (ZR 0), some (ZI sheet)] [] 41 σ
    refine zr_iconst (pc := 12) hV (-1) dX12_drop_12 rfl ?_
    exact zr_iret (pc := 13) hV dX12_drop_13 rfl rfl ⟨_, rfl, ⟨by decide, by decide⟩, hσ, (fun a i _ => rfl), (by omega), (show ∀ j, σ 38 j = if 0 ≤ sheet ∧ sheet ≤ 3 ∧ j = sheet then -1 else σ 38 j from (fun j => if h : j = sheet then (if g : 0 ≤ sheet ∧ sheet ≤ 3 then (by rw [if_pos (by omega), h]; omega) else (by rw [if_neg (by omega)])) else (by rw [if_neg (by omega)])))⟩
set_option maxHeartbeats 800000 in
theorem c_X12_against2 {σ : zq_S} (hσ : zx_T σ) (sheet lane from_ many : Int) (q0 : 0 ≤ sheet ∧ sheet ≤ 3) (q1 : zq_in lane) (q2 : zq_in from_) (q3 : 0 ≤ many ∧ many ≤ 30) : zq_C zx_w yX12_against cX12_against 5 (some .int) 1 25 41 41 [ZR 0, ZI sheet, ZI lane, ZI from_, ZI many] σ (zq_pp σ (fun r => (r ≤ 0 ∧ (r = 0 → 0 ≤ from_ ∧ from_ + many ≤ 30)) ∧ ((σ 38 sheet ≠ lane → (σ 38 sheet < 0 → r = -11) ∧ (0 ≤ σ 38 sheet → r = -12)) ∧ (σ 38 sheet = lane → (0 ≤ from_ ∧ from_ ≤ σ 39 sheet - many → r = 0) ∧ (¬ (0 ≤ from_ ∧ from_ ≤ σ 39 sheet - many) → r = -13))))) := by
  refine zq_C_of (by decide) (Nat.le_refl _) (Nat.le_of_ble_eq_true rfl) [some (ZR 0), some (ZI sheet), some (ZI lane), some (ZI from_), some (ZI many)] rfl (fun V hV => ?_)
  show V 0 [some (ZR 0), some (ZI sheet), some (ZI lane), some (ZI from_), some (ZI many)] [] 41 σ
  refine zr_aload_n (pc := 0) hV dX12_against_0 rfl rfl ?_
  refine zr_getR (pc := 1) hV 62 38 dX12_against_1 fX12_138 rfl rfl rfl (by decide) (zx_g62 hσ) (by omega) ?_
  refine zr_iload_n (pc := 4) hV dX12_against_4 rfl rfl ?_
  refine zr_iald (pc := 5) hV dX12_against_5 rfl (by decide) rfl (by omega) ?_
  have t1 := zx_ga38 hσ sheet
  refine zr_iload_n (pc := 6) hV dX12_against_6 rfl rfl ?_
  refine zr_icmp_eq (pc := 7) hV 27 dX12_against_7 (by decide) (by omega) (by omega) (fun c2 => ?_) (fun c2 => ?_)
  · show V 27 [some (ZR 0), some (ZI sheet), some (ZI lane), some (ZI from_), some (ZI many)] [] 41 σ
    refine zr_iload_n (pc := 27) hV dX12_against_27 rfl rfl ?_
    refine zr_i2l (pc := 28) hV dX12_against_28 (by omega) ?_
    refine zr_lconst (pc := 29) hV 0 dX12_against_29 (by decide) ?_
    refine zr_aload_n (pc := 30) hV dX12_against_30 rfl rfl ?_
    refine zr_getR (pc := 31) hV 63 39 dX12_against_31 fX12_141 rfl rfl rfl (by decide) (zx_g63 hσ) (by omega) ?_
    refine zr_iload_n (pc := 34) hV dX12_against_34 rfl rfl ?_
    refine zr_iald (pc := 35) hV dX12_against_35 rfl (by decide) rfl (by omega) ?_
    have t3 := zx_ga39 hσ sheet
    refine zr_iload (pc := 36) hV dX12_against_36 rfl ?_
    refine zr_isub (pc := 38) hV dX12_against_38 ?_
    refine zr_i2l (pc := 39) hV dX12_against_39 (by omega) ?_
    refine zr_callSp (pc := 40) hV [ZL from_, ZL 0, ZL ((σ 39 sheet) - many)] (st := []) (c_X12_in (σ := σ) from_ 0 ((σ 39 sheet) - many) (by omega) (by omega) (by omega)) dX12_against_40 mX12_170 (by decide) (Nat.le_of_ble_eq_true rfl) (Nat.le_refl _) (fun r40 hr40 pr40 => ?_)
    refine zr_if_eq (pc := 43) hV 50 dX12_against_43 (by decide) (by omega) (fun c4 => ?_) (fun c4 => ?_)
    · show V 50 [some (ZR 0), some (ZI sheet), some (ZI lane), some (ZI from_), some (ZI many)] [] 41 σ
      refine zr_bipush (pc := 50) hV (-13) dX12_against_50 (by decide) ?_
      show V 52 [some (ZR 0), some (ZI sheet), some (ZI lane), some (ZI from_), some (ZI many)] [ZI (-13)] 41 σ
      exact zr_iret (pc := 52) hV dX12_against_52 rfl rfl ⟨rfl, _, rfl, ⟨by decide, by decide⟩, (by omega)⟩
    · show V 46 [some (ZR 0), some (ZI sheet), some (ZI lane), some (ZI from_), some (ZI many)] [] 41 σ
      refine zr_iconst (pc := 46) hV 0 dX12_against_46 rfl ?_
      refine zr_goto (pc := 47) hV 52 dX12_against_47 (by decide) ?_
      show V 52 [some (ZR 0), some (ZI sheet), some (ZI lane), some (ZI from_), some (ZI many)] [ZI 0] 41 σ
      exact zr_iret (pc := 52) hV dX12_against_52 rfl rfl ⟨rfl, _, rfl, ⟨by decide, by decide⟩, (by omega)⟩
  · show V 10 [some (ZR 0), some (ZI sheet), some (ZI lane), some (ZI from_), some (ZI many)] [] 41 σ
    refine zr_aload_n (pc := 10) hV dX12_against_10 rfl rfl ?_
    refine zr_getR (pc := 11) hV 62 38 dX12_against_11 fX12_138 rfl rfl rfl (by decide) (zx_g62 hσ) (by omega) ?_
    refine zr_iload_n (pc := 14) hV dX12_against_14 rfl rfl ?_
    refine zr_iald (pc := 15) hV dX12_against_15 rfl (by decide) rfl (by omega) ?_
    have t5 := zx_ga38 hσ sheet
    refine zr_if_ge (pc := 16) hV 24 dX12_against_16 (by decide) (by omega) (fun c6 => ?_) (fun c6 => ?_)
    · show V 24 [some (ZR 0), some (ZI sheet), some (ZI lane), some (ZI from_), some (ZI many)] [] 41 σ
      refine zr_bipush (pc := 24) hV (-12) dX12_against_24 (by decide) ?_
      show V 26 [some (ZR 0), some (ZI sheet), some (ZI lane), some (ZI from_), some (ZI many)] [ZI (-12)] 41 σ
      exact zr_iret (pc := 26) hV dX12_against_26 rfl rfl ⟨rfl, _, rfl, ⟨by decide, by decide⟩, (by omega)⟩
    · show V 19 [some (ZR 0), some (ZI sheet), some (ZI lane), some (ZI from_), some (ZI many)] [] 41 σ
      refine zr_bipush (pc := 19) hV (-11) dX12_against_19 (by decide) ?_
      refine zr_goto (pc := 21) hV 26 dX12_against_21 (by decide) ?_
      show V 26 [some (ZR 0), some (ZI sheet), some (ZI lane), some (ZI from_), some (ZI many)] [ZI (-11)] 41 σ
      exact zr_iret (pc := 26) hV dX12_against_26 rfl rfl ⟨rfl, _, rfl, ⟨by decide, by decide⟩, (by omega)⟩
