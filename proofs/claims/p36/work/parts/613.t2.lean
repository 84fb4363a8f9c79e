set_option maxHeartbeats 800000 in
theorem c_X9_registers_2 {σ : zq_S} (hσ : zc_T σ)   : zq_C zc_w yX9_registers cX9_registers 1 (some .int) 0 0 284 284 [ZR 3] σ (zq_pp σ (fun r => (1 ≤ r ∧ r ≤ 8) ∧ r = zq_shl 1 (σ 3 1))) := by
  refine zq_C_of (by decide) (Nat.le_refl _) (Nat.le_of_ble_eq_true rfl) [some (ZR 3)] rfl (fun V hV => ?_)
  show V 0 [some (ZR 3)] [] 284 σ
  refine zr_iconst (pc := 0) hV 1 dX9_registers_0 rfl ?_
  refine zr_aload_n (pc := 1) hV dX9_registers_1 rfl rfl ?_
  refine zr_getI (pc := 2) hV 1 dX9_registers_2 fX9_30 rfl rfl (zc_k3 zc_s3) (zc_pos zc_s3 rfl) ?_
  have t1 := zc_g3_1 hσ zc_s3
  refine zr_ishl (pc := 5) hV dX9_registers_5 ?_
  have t2 := zx_shl_one (y := σ 3 1) 3 8 (by decide) (by decide) (by omega)
  exact zr_iret (pc := 6) hV dX9_registers_6 rfl rfl ⟨rfl, _, rfl, (by omega), (by omega)⟩
set_option maxHeartbeats 800000 in
theorem c_X11_flush_2 {σ : zq_S} (hσ : zc_T σ) (f : Int) (q0 : zq_in f) (Uσ : zc_U σ) : zq_C zc_w yX11_flush cX11_flush 3 (some .int) 1 22 284 284 [ZR 0, ZI f] σ (zq_pi (fun r τ => zc_T τ ∧ zc_Fr [(140, 12)] σ τ ∧ ((0 ≤ f ∧ f ≤ 9 → r = σ 140 12 ∧ τ 140 12 = f) ∧ (¬ (0 ≤ f ∧ f ≤ 9) → r = -1 ∧ τ 140 12 = σ 140 12)) ∧ zc_U τ)) := by
  refine zq_C_of (by decide) (Nat.le_refl _) (Nat.le_of_ble_eq_true rfl) [some (ZR 0), some (ZI f), none] rfl (fun V hV => ?_)
  have hFσ := zc_Fr_rf [(140, 12)] σ
  show V 0 [some (ZR 0), some (ZI f), none] [] 284 σ
  refine zr_iload_n (pc := 0) hV dX11_flush_0 rfl rfl ?_
  refine zr_iconst (pc := 1) hV 0 dX11_flush_1 rfl ?_
  refine zr_bipush (pc := 2) hV 9 dX11_flush_2 (by decide) ?_
  refine zr_callSp (pc := 4) hV [ZI f, ZI 0, ZI 9] (st := []) (c_X11_within (σ := σ) f 0 9 (by omega) (by omega) (by omega)) dX11_flush_4 mX11_89 (by decide) (Nat.le_of_ble_eq_true rfl) (Nat.le_refl _) (fun r4 hr4 pr4 => ?_)
  refine zr_if_ne (pc := 7) hV 12 dX11_flush_7 (by decide) (by omega) (fun c1 => ?_) (fun c1 => ?_)
  · show V 12 [some (ZR 0), some (ZI f), none] [] 284 σ
    refine zr_aload_n (pc := 12) hV dX11_flush_12 rfl rfl ?_
    refine zr_getR (pc := 13) hV 5 140 dX11_flush_13 fX11_48 rfl rfl (zc_k0 zc_s0) (zc_pos zc_s0 rfl) (zc_g0_5 hσ zc_s0) (by decide) ?_
    refine zr_getI (pc := 16) hV 12 dX11_flush_16 fX11_159 rfl rfl (zc_k140 zc_s140) (zc_pos zc_s140 rfl) ?_
    have t2 := zc_g140_12 hσ zc_s140
    refine zr_istore_n (pc := 19) hV [some (ZR 0), some (ZI f), some (ZI (σ 140 12))] dX11_flush_19 rfl (by decide) rfl rfl ?_
    refine zr_aload_n (pc := 20) hV dX11_flush_20 rfl rfl ?_
    refine zr_getR (pc := 21) hV 5 140 dX11_flush_21 fX11_48 rfl rfl (zc_k0 zc_s0) (zc_pos zc_s0 rfl) (zc_g0_5 hσ zc_s0) (by decide) ?_
    refine zr_iload_n (pc := 24) hV dX11_flush_24 rfl rfl ?_
    refine zr_putI (pc := 25) hV 12 dX11_flush_25 fX11_159 rfl rfl rfl (zc_k140 zc_s140) (zc_pos zc_s140 rfl) (fun σ25 eσ25 => ?_)
    have hσ25 : zc_T σ25 := zc_u140_12 eσ25 hσ zc_s140 (by omega)
    have hFσ25 := zc_Fw eσ25 zc_s140 rfl hFσ
    have Uσ25 : zc_U σ25 := zc_U_fr (zc_Fw eσ25 zc_s140 rfl (zc_Fr_rf [(140, 12)] _)) rfl hσ Uσ
    refine zr_iload_n (pc := 28) hV dX11_flush_28 rfl rfl ?_
    have t3 := zc_g140_12 hσ25 zc_s140
    have t4 : σ25 140 12 = f := by rw [eσ25]; exact zq_up_same _ _ _ _
    exact zr_iret (pc := 29) hV dX11_flush_29 rfl rfl ⟨_, rfl, (by omega), hσ25, hFσ25, (by omega), Uσ25⟩
  · show V 10 [some (ZR 0), some (ZI f), none] [] 284 σ
    refine zr_iconst (pc := 10) hV (-1) dX11_flush_10 rfl ?_
    have t5 := zc_g140_12 hσ zc_s140
    exact zr_iret (pc := 11) hV dX11_flush_11 rfl rfl ⟨_, rfl, ⟨by decide, by decide⟩, hσ, hFσ, (by omega), Uσ⟩
set_option maxHeartbeats 800000 in
theorem c_X5_takeAway_2 {σ : zq_S} (hσ : zc_T σ) (sheet : Int) (q0 : 0 ≤ sheet ∧ sheet ≤ 3) : zq_C zc_w yX5_takeAway cX5_takeAway 2 (some .int) 0 0 284 284 [ZR 276, ZI sheet] σ (zq_pi (fun r τ => zc_T τ ∧ zc_Fr [(277, -1)] σ τ ∧ ((σ 277 sheet < 0 → r = -11) ∧ (0 ≤ σ 277 sheet → r = σ 278 sheet)) ∧ zq_hid (∀ j, τ 277 j = if j = sheet then -1 else σ 277 j))) := by
  refine zq_C_of (by decide) (Nat.le_refl _) (Nat.le_of_ble_eq_true rfl) [some (ZR 276), some (ZI sheet)] rfl (fun V hV => ?_)
  have hFσ := zc_Fr_rf [(277, -1)] σ
  show V 0 [some (ZR 276), some (ZI sheet)] [] 284 σ
  refine zr_aload_n (pc := 0) hV dX5_takeAway_0 rfl rfl ?_
  refine zr_getR (pc := 1) hV 0 277 dX5_takeAway_1 fX5_11 rfl rfl (zc_k276 zc_s276) (zc_pos zc_s276 rfl) (zc_g276_0 hσ zc_s276) (by decide) ?_
  refine zr_iload_n (pc := 4) hV dX5_takeAway_4 rfl rfl ?_
  refine zr_iald (pc := 5) hV dX5_takeAway_5 (zc_k277 zc_s277) (zc_pos zc_s277 rfl) rfl (by omega) ?_
  have t1 := zc_ga277 hσ zc_s277 sheet
  refine zr_iconst (pc := 6) hV (-1) dX5_takeAway_6 rfl ?_
  refine zr_icmp_ne (pc := 7) hV 13 dX5_takeAway_7 (by decide) (by omega) ⟨by decide, by decide⟩ (fun c2 => ?_) (fun c2 => ?_)
  · show V 13 [some (ZR 276), some (ZI sheet)] [] 284 σ
    refine zr_aload_n (pc := 13) hV dX5_takeAway_13 rfl rfl ?_
    refine zr_getR (pc := 14) hV 0 277 dX5_takeAway_14 fX5_11 rfl rfl (zc_k276 zc_s276) (zc_pos zc_s276 rfl) (zc_g276_0 hσ zc_s276) (by decide) ?_
    refine zr_iload_n (pc := 17) hV dX5_takeAway_17 rfl rfl ?_
    refine zr_iconst (pc := 18) hV (-1) dX5_takeAway_18 rfl ?_
    refine zr_iast (pc := 19) hV dX5_takeAway_19 (zc_k277 zc_s277) (zc_pos zc_s277 rfl) rfl (by omega) (fun σ19 eσ19 => ?_)
    have hσ19 : zc_T σ19 := zc_ua277 eσ19 hσ zc_s277 (by omega)
    have hFσ19 := zc_Fa eσ19 zc_s277 rfl hFσ
    refine zr_aload_n (pc := 20) hV dX5_takeAway_20 rfl rfl ?_
    refine zr_getR (pc := 21) hV 1 278 dX5_takeAway_21 fX5_15 rfl rfl (zc_k276 zc_s276) (zc_pos zc_s276 rfl) (zc_g276_1 hσ19 zc_s276) (by decide) ?_
    refine zr_iload_n (pc := 24) hV dX5_takeAway_24 rfl rfl ?_
    refine zr_iald (pc := 25) hV dX5_takeAway_25 (zc_k278 zc_s278) (zc_pos zc_s278 rfl) rfl (by omega) ?_
    have t3 := zc_ga278 hσ19 zc_s278 sheet
    have t4 : σ19 278 sheet = σ 278 sheet := by rw [eσ19]; exact zq_up_ne (zc_dk zc_s278 zc_s277 rfl)
    exact zr_iret (pc := 26) hV dX5_takeAway_26 rfl rfl ⟨_, rfl, (by omega), hσ19, hFσ19, (by omega), (show ∀ j, σ19 277 j = if j = sheet then -1 else σ 277 j from (fun j => if h : j = sheet then (by rw [if_pos h, h, eσ19, zq_up_same]) else (by rw [if_neg h, eσ19, zq_up_ne (by omega)])))⟩
  · show V 10 [some (ZR 276), some (ZI sheet)] [] 284 σ
    refine zr_bipush (pc := 10) hV (-11) dX5_takeAway_10 (by decide) ?_
    exact zr_iret (pc := 12) hV dX5_takeAway_12 rfl rfl ⟨_, rfl, ⟨by decide, by decide⟩, hσ, hFσ, (by omega), (show ∀ j, σ 277 j = if j = sheet then -1 else σ 277 j from (fun j => if h : j = sheet then (by rw [if_pos h, h]; omega) else (by rw [if_neg h])))⟩
set_option maxHeartbeats 800000 in
theorem c_X5_refusal_2 {σ : zq_S} (hσ : zc_T σ) (sheet : Int) (lane : Int) (from_ : Int) (n : Int) (q0 : 0 ≤ sheet ∧ sheet ≤ 3) (q1 : 0 ≤ lane ∧ lane ≤ 2) (q2 : zq_in from_) (q3 : 0 ≤ n ∧ n ≤ 30) : zq_C zc_w yX5_refusal cX5_refusal 5 (some .int) 0 0 284 284 [ZR 276, ZI sheet, ZI lane, ZI from_, ZI n] σ (zq_pp σ (fun r => (0 ≤ r → r = 0 ∧ 0 ≤ from_ ∧ from_ + n ≤ σ 278 sheet ∧ σ 278 sheet ≤ 30) ∧ (σ 277 sheet ≠ lane → (σ 277 sheet < 0 → r = -11) ∧ (0 ≤ σ 277 sheet → r = -12)) ∧ (σ 277 sheet = lane → (0 ≤ from_ ∧ from_ ≤ σ 278 sheet - n → r = 0) ∧ (¬ (0 ≤ from_ ∧ from_ ≤ σ 278 sheet - n) → r = -13)))) := by
  refine zq_C_of (by decide) (Nat.le_refl _) (Nat.le_of_ble_eq_true rfl) [some (ZR 276), some (ZI sheet), some (ZI lane), some (ZI from_), some (ZI n)] rfl (fun V hV => ?_)
  show V 0 [some (ZR 276), some (ZI sheet), some (ZI lane), some (ZI from_), some (ZI n)] [] 284 σ
  refine zr_aload_n (pc := 0) hV dX5_refusal_0 rfl rfl ?_
  refine zr_getR (pc := 1) hV 0 277 dX5_refusal_1 fX5_11 rfl rfl (zc_k276 zc_s276) (zc_pos zc_s276 rfl) (zc_g276_0 hσ zc_s276) (by decide) ?_
  refine zr_iload_n (pc := 4) hV dX5_refusal_4 rfl rfl ?_
  refine zr_iald (pc := 5) hV dX5_refusal_5 (zc_k277 zc_s277) (zc_pos zc_s277 rfl) rfl (by omega) ?_
  have t1 := zc_ga277 hσ zc_s277 sheet
  refine zr_iconst (pc := 6) hV (-1) dX5_refusal_6 rfl ?_
  refine zr_icmp_ne (pc := 7) hV 13 dX5_refusal_7 (by decide) (by omega) ⟨by decide, by decide⟩ (fun c2 => ?_) (fun c2 => ?_)
  · show V 13 [some (ZR 276), some (ZI sheet), some (ZI lane), some (ZI from_), some (ZI n)] [] 284 σ
    refine zr_aload_n (pc := 13) hV dX5_refusal_13 rfl rfl ?_
    refine zr_getR (pc := 14) hV 0 277 dX5_refusal_14 fX5_11 rfl rfl (zc_k276 zc_s276) (zc_pos zc_s276 rfl) (zc_g276_0 hσ zc_s276) (by decide) ?_
    refine zr_iload_n (pc := 17) hV dX5_refusal_17 rfl rfl ?_
    refine zr_iald (pc := 18) hV dX5_refusal_18 (zc_k277 zc_s277) (zc_pos zc_s277 rfl) rfl (by omega) ?_
    have t3 := zc_ga277 hσ zc_s277 sheet
    refine zr_iload_n (pc := 19) hV dX5_refusal_19 rfl rfl ?_
    refine zr_icmp_eq (pc := 20) hV 26 dX5_refusal_20 (by decide) (by omega) (by omega) (fun c4 => ?_) (fun c4 => ?_)
    · show V 26 [some (ZR 276), some (ZI sheet), some (ZI lane), some (ZI from_), some (ZI n)] [] 284 σ
      refine zr_iload_n (pc := 26) hV dX5_refusal_26 rfl rfl ?_
      refine zr_if_lt (pc := 27) hV 43 dX5_refusal_27 (by decide) (by omega) (fun c5 => ?_) (fun c5 => ?_)
      · show V 43 [some (ZR 276), some (ZI sheet), some (ZI lane), some (ZI from_), some (ZI n)] [] 284 σ
        refine zr_bipush (pc := 43) hV (-13) dX5_refusal_43 (by decide) ?_
        refine zr_goto (pc := 45) hV 49 dX5_refusal_45 (by decide) ?_
        show V 49 [some (ZR 276), some (ZI sheet), some (ZI lane), some (ZI from_), some (ZI n)] [ZI (-13)] 284 σ
        exact zr_iret (pc := 49) hV dX5_refusal_49 rfl rfl ⟨rfl, _, rfl, ⟨by decide, by decide⟩, (by omega)⟩
      · show V 30 [some (ZR 276), some (ZI sheet), some (ZI lane), some (ZI from_), some (ZI n)] [] 284 σ
        refine zr_iload_n (pc := 30) hV dX5_refusal_30 rfl rfl ?_
        refine zr_aload_n (pc := 31) hV dX5_refusal_31 rfl rfl ?_
        refine zr_getR (pc := 32) hV 1 278 dX5_refusal_32 fX5_15 rfl rfl (zc_k276 zc_s276) (zc_pos zc_s276 rfl) (zc_g276_1 hσ zc_s276) (by decide) ?_
        refine zr_iload_n (pc := 35) hV dX5_refusal_35 rfl rfl ?_
        refine zr_iald (pc := 36) hV dX5_refusal_36 (zc_k278 zc_s278) (zc_pos zc_s278 rfl) rfl (by omega) ?_
        have t6 := zc_ga278 hσ zc_s278 sheet
        refine zr_iload (pc := 37) hV dX5_refusal_37 rfl ?_
        refine zr_isub (pc := 39) hV dX5_refusal_39 ?_
        refine zr_icmp_le (pc := 40) hV 48 dX5_refusal_40 (by decide) (by omega) (by omega) (fun c7 => ?_) (fun c7 => ?_)
        · show V 48 [some (ZR 276), some (ZI sheet), some (ZI lane), some (ZI from_), some (ZI n)] [] 284 σ
          refine zr_iconst (pc := 48) hV 0 dX5_refusal_48 rfl ?_
          show V 49 [some (ZR 276), some (ZI sheet), some (ZI lane), some (ZI from_), some (ZI n)] [ZI 0] 284 σ
          exact zr_iret (pc := 49) hV dX5_refusal_49 rfl rfl ⟨rfl, _, rfl, ⟨by decide, by decide⟩, (by omega)⟩
        · show V 43 [some (ZR 276), some (ZI sheet), some (ZI lane), some (ZI from_), some (ZI n)] [] 284 σ
          refine zr_bipush (pc := 43) hV (-13) dX5_refusal_43 (by decide) ?_
          refine zr_goto (pc := 45) hV 49 dX5_refusal_45 (by decide) ?_
          show V 49 [some (ZR 276), some (ZI sheet), some (ZI lane), some (ZI from_), some (ZI n)] [ZI (-13)] 284 σ
          exact zr_iret (pc := 49) hV dX5_refusal_49 rfl rfl ⟨rfl, _, rfl, ⟨by decide, by decide⟩, (by omega)⟩
    · show V 23 [some (ZR 276), some (ZI sheet), some (ZI lane), some (ZI from_), some (ZI n)] [] 284 σ
      refine zr_bipush (pc := 23) hV (-12) dX5_refusal_23 (by decide) ?_
      exact zr_iret (pc := 25) hV dX5_refusal_25 rfl rfl ⟨rfl, _, rfl, ⟨by decide, by decide⟩, (by omega)⟩
  · show V 10 [some (ZR 276), some (ZI sheet), some (ZI lane), some (ZI from_), some (ZI n)] [] 284 σ
    refine zr_bipush (pc := 10) hV (-11) dX5_refusal_10 (by decide) ?_
    exact zr_iret (pc := 12) hV dX5_refusal_12 rfl rfl ⟨rfl, _, rfl, ⟨by decide, by decide⟩, (by omega)⟩
set_option maxHeartbeats 800000 in
theorem c_X11_drop_2 {σ : zq_S} (hσ : zc_T σ) (sheet : Int) (q0 : zq_in sheet) (Uσ : zc_U σ) : zq_C zc_w yX11_drop cX11_drop 2 (some .int) 1 21 284 284 [ZR 0, ZI sheet] σ (zq_pi (fun r τ => zc_T τ ∧ zc_Fr [(277, -1)] σ τ ∧ ((¬ (0 ≤ sheet ∧ sheet ≤ 3) → r = -1) ∧ (0 ≤ sheet ∧ sheet ≤ 3 → (σ 277 sheet < 0 → r = -11) ∧ (0 ≤ σ 277 sheet → r = σ 278 sheet))) ∧ zq_hid (∀ j, τ 277 j = if 0 ≤ sheet ∧ sheet ≤ 3 ∧ j = sheet then -1 else σ 277 j) ∧ zc_U τ)) := by
  refine zq_C_of (by decide) (Nat.le_refl _) (Nat.le_of_ble_eq_true rfl) [some (ZR 0), some (ZI sheet)] rfl (fun V hV => ?_)
  have hFσ := zc_Fr_rf [(277, -1)] σ
  show V 0 [some (ZR 0), some (ZI sheet)] [] 284 σ
  refine zr_iload_n (pc := 0) hV dX11_drop_0 rfl rfl ?_
  refine zr_callSp (pc := 1) hV [ZI sheet] (st := []) (c_X5_isSheet (σ := σ) sheet (by omega)) dX11_drop_1 mX11_273 (by decide) (Nat.le_of_ble_eq_true rfl) (Nat.le_refl _) (fun r1 hr1 pr1 => ?_)
  refine zr_if_eq (pc := 4) hV 18 dX11_drop_4 (by decide) (by omega) (fun c1 => ?_) (fun c1 => ?_)
  · show V 18 [some (ZR 0), some (ZI sheet)] [] 284 σ
    refine zr_iconst (pc := 18) hV (-1) dX11_drop_18 rfl ?_
    show V 19 [some (ZR 0), some (ZI sheet)] [ZI (-1)] 284 σ
    exact zr_iret (pc := 19) hV dX11_drop_19 rfl rfl ⟨_, rfl, ⟨by decide, by decide⟩, hσ, hFσ, (by omega), (show ∀ j, σ 277 j = if 0 ≤ sheet ∧ sheet ≤ 3 ∧ j = sheet then -1 else σ 277 j from (fun j => by rw [if_neg (by omega)])), Uσ⟩
  · show V 7 [some (ZR 0), some (ZI sheet)] [] 284 σ
    refine zr_aload_n (pc := 7) hV dX11_drop_7 rfl rfl ?_
    refine zr_getR (pc := 8) hV 7 276 dX11_drop_8 fX11_64 rfl rfl (zc_k0 zc_s0) (zc_pos zc_s0 rfl) (zc_g0_7 hσ zc_s0) (by decide) ?_
    refine zr_iload_n (pc := 11) hV dX11_drop_11 rfl rfl ?_
    refine zr_callVi (pc := 12) hV [ZI sheet] (st := []) (c_X5_takeAway_2 (σ := σ) hσ sheet (by omega)) dX11_drop_12 mX11_304 (zc_k276 zc_s276) (zc_pos zc_s276 rfl) (by decide) (Nat.le_of_ble_eq_true rfl) (Nat.le_refl _) (fun r12 σ12 hr12 pσ12 => ?_)
    obtain ⟨hσ12, hfσ12, pσ12, wσ12⟩ := pσ12
    have hFσ12 := zc_Fc hfσ12 rfl hFσ
    have Uσ12 : zc_U σ12 := zc_U_fr hfσ12 rfl hσ Uσ
    refine zr_goto (pc := 15) hV 19 dX11_drop_15 (by decide) ?_
    show V 19 [some (ZR 0), some (ZI sheet)] [ZI r12] 284 σ12
    exact zr_iret (pc := 19) hV dX11_drop_19 rfl rfl ⟨_, rfl, (by omega), hσ12, hFσ12, (by omega), (show ∀ j, σ12 277 j = if 0 ≤ sheet ∧ sheet ≤ 3 ∧ j = sheet then -1 else σ 277 j from (fun j => if h : j = sheet then (by rw [wσ12 j, if_pos h, if_pos (by omega)]) else (by rw [wσ12 j, if_neg h, if_neg (by omega)]))), Uσ12⟩
