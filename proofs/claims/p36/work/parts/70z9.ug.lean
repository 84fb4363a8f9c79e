set_option maxHeartbeats 800000 in
theorem c_X12_variables4 {σ : zq_S} (hσ : zx_T σ) (v : Int) (q0 : zq_in v) (Uσ : zx_U σ) : zq_C zx_w yX12_variables cX12_variables 3 (some .int) 1 25 41 41 [ZR 0, ZI v] σ (zq_pi (fun r τ => zx_T τ ∧ (∀ a i : Int, (¬ (a = 0 ∧ i = 35) ∧ ¬ (a = 0 ∧ i = 36)) → τ a i = σ a i) ∧ ((1 ≤ v ∧ v ≤ zq_shl 1 (σ 0 1) → r = σ 0 35 ∧ τ 0 35 = v ∧ τ 0 36 = 0) ∧ (¬ (1 ≤ v ∧ v ≤ zq_shl 1 (σ 0 1)) → r = -1 ∧ τ 0 35 = σ 0 35 ∧ τ 0 36 = σ 0 36)) ∧ zx_U τ)) := by
  refine zq_C_of (by decide) (Nat.le_refl _) (Nat.le_of_ble_eq_true rfl) [some (ZR 0), some (ZI v), none] rfl (fun V hV => ?_)
  show V 0 [some (ZR 0), some (ZI v), none] [] 41 σ
  refine zr_iload_n (pc := 0) hV dX12_variables_0 rfl rfl ?_
  refine zr_i2l (pc := 1) hV dX12_variables_1 (by omega) ?_
  refine zr_lconst (pc := 2) hV 1 dX12_variables_2 (by decide) ?_
  refine zr_iconst (pc := 3) hV 1 dX12_variables_3 rfl ?_
  refine zr_aload_n (pc := 4) hV dX12_variables_4 rfl rfl ?_
  refine zr_getI (pc := 5) hV 1 dX12_variables_5 fX12_13 rfl rfl rfl (by decide) ?_
  have t1 := zx_g1 hσ
  refine zr_ishl (pc := 8) hV dX12_variables_8 ?_
  have t2 := zx_shl_one (y := σ 0 1) 3 8 (by decide) (by decide) (by omega)
  refine zr_i2l (pc := 9) hV dX12_variables_9 (by omega) ?_
  refine zr_callSp (pc := 10) hV [ZL v, ZL 1, ZL (zq_shl 1 (σ 0 1))] (st := []) (c_X12_in (σ := σ) v 1 (zq_shl 1 (σ 0 1)) (by omega) (by omega) (by omega)) dX12_variables_10 mX12_170 (by decide) (Nat.le_of_ble_eq_true rfl) (Nat.le_refl _) (fun r10 hr10 pr10 => ?_)
  refine zr_if_ne (pc := 13) hV 18 dX12_variables_13 (by decide) (by omega) (fun c3 => ?_) (fun c3 => ?_)
  · show V 18 [some (ZR 0), some (ZI v), none] [] 41 σ
    refine zr_aload_n (pc := 18) hV dX12_variables_18 rfl rfl ?_
    refine zr_getI (pc := 19) hV 35 dX12_variables_19 fX12_84 rfl rfl rfl (by decide) ?_
    have t4 := zx_g35 hσ
    refine zr_istore_n (pc := 22) hV [some (ZR 0), some (ZI v), some (ZI (σ 0 35))] dX12_variables_22 rfl (by decide) rfl rfl ?_
    refine zr_aload_n (pc := 23) hV dX12_variables_23 rfl rfl ?_
    refine zr_iload_n (pc := 24) hV dX12_variables_24 rfl rfl ?_
    refine zr_putI (pc := 25) hV 35 dX12_variables_25 fX12_84 rfl rfl rfl rfl (by decide) (fun σ25 eσ25 => ?_)
    have hσ25 : zx_T σ25 := zx_u35 eσ25 hσ (by omega)
    have hFσ25 : ∀ a i : Int, (¬ (a = 0 ∧ i = 35) ∧ ¬ (a = 0 ∧ i = 36)) → σ25 a i = σ a i := fun a i h => by rw [eσ25, zq_up_ne h.1]
    have Uσ25 : zx_U σ25 := zx_U_fr (by rw [eσ25]; exact zq_up_ne (by omega)) (by rw [eσ25]; exact zq_up_ne (by omega)) (fun i => by rw [eσ25]; exact zq_up_ne (by omega)) (fun i => by rw [eσ25]; exact zq_up_ne (by omega)) (fun i => by rw [eσ25]; exact zq_up_ne (by omega)) Uσ
    refine zr_aload_n (pc := 28) hV dX12_variables_28 rfl rfl ?_
    refine zr_iconst (pc := 29) hV 0 dX12_variables_29 rfl ?_
    refine zr_putZ (pc := 30) hV 36 dX12_variables_30 fX12_160 rfl rfl rfl (by omega) rfl (by decide) (fun σ30 eσ30 => ?_)
    have hσ30 : zx_T σ30 := zx_u36 eσ30 hσ25 (by omega)
    have hFσ30 : ∀ a i : Int, (¬ (a = 0 ∧ i = 35) ∧ ¬ (a = 0 ∧ i = 36)) → σ30 a i = σ a i := fun a i h => by rw [eσ30, zq_up_ne h.2]; exact hFσ25 a i h
    have Uσ30 : zx_U σ30 := zx_U_0 (by rw [eσ30, zq_up_same])
    refine zr_iload_n (pc := 33) hV dX12_variables_33 rfl rfl ?_
    have t5 := zx_g35 hσ30
    have t6 : σ30 0 35 = σ25 0 35 := by rw [eσ30]; exact zq_up_ne (by omega)
    have t7 : σ25 0 35 = v := by rw [eσ25]; exact zq_up_same _ _ _ _
    have t8 := zx_g36 hσ30
    have t9 : σ30 0 36 = 0 := by rw [eσ30]; exact zq_up_same _ _ _ _
    exact zr_iret (pc := 34) hV dX12_variables_34 rfl rfl ⟨_, rfl, (by omega), hσ30, hFσ30, (by omega), Uσ30⟩
  · show V 16 [some (ZR 0), some (ZI v), none] [] 41 σ
    refine zr_iconst (pc := 16) hV (-1) dX12_variables_16 rfl ?_
    have t10 := zx_g35 hσ
    have t11 := zx_g36 hσ
    exact zr_iret (pc := 17) hV dX12_variables_17 rfl rfl ⟨_, rfl, ⟨by decide, by decide⟩, hσ, (fun a i _ => rfl), (by omega), Uσ⟩
