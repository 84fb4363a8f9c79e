set_option maxHeartbeats 800000 in
theorem c_X12_line2 {σ : zq_S} (hσ : zx_T σ)  : zq_C zx_w yX12_line cX12_line 2 (some .int) 3 73 41 41 [ZR 0] σ (zq_pi (fun r τ => zx_T τ ∧ (∀ a i : Int, (¬ (a = 0 ∧ i = 14) ∧ ¬ (a = 0 ∧ i = 15) ∧ ¬ (a = 0 ∧ i = 16) ∧ a ≠ 19) → τ a i = σ a i) ∧ (τ 0 14 = 0))) := by
  refine zq_C_of (by decide) (Nat.le_refl _) (Nat.le_of_ble_eq_true rfl) [some (ZR 0), none] rfl (fun V hV => ?_)
  show V 0 [some (ZR 0), none] [] 41 σ
  refine zr_aload_n (pc := 0) hV dX12_line_0 rfl rfl ?_
  refine zr_callVi (pc := 1) hV [] (st := []) (c_X12_readLine (σ := σ) hσ ) dX12_line_1 mX12_390 rfl (by decide) (by decide) (Nat.le_of_ble_eq_true rfl) (Nat.le_refl _) (fun r1 σ1 hr1 pσ1 => ?_)
  obtain ⟨hσ1, hfσ1, pσ1⟩ := pσ1
  have hFσ1 : ∀ a i : Int, (¬ (a = 0 ∧ i = 14) ∧ ¬ (a = 0 ∧ i = 15) ∧ ¬ (a = 0 ∧ i = 16) ∧ a ≠ 19) → σ1 a i = σ a i := fun a i h => (hfσ1 a i ⟨h.2.1, h.2.2.1, h.2.2.2⟩)
  refine zr_istore_n (pc := 4) hV [some (ZR 0), some (ZI r1)] dX12_line_4 rfl (by decide) rfl rfl ?_
  refine zr_aload_n (pc := 5) hV dX12_line_5 rfl rfl ?_
  refine zr_iconst (pc := 6) hV 0 dX12_line_6 rfl ?_
  refine zr_putI (pc := 7) hV 14 dX12_line_7 fX12_197 rfl rfl rfl rfl (by decide) (fun σ7 eσ7 => ?_)
  have hσ7 : zx_T σ7 := zx_u14 eσ7 hσ1 (by omega)
  have hFσ7 : ∀ a i : Int, (¬ (a = 0 ∧ i = 14) ∧ ¬ (a = 0 ∧ i = 15) ∧ ¬ (a = 0 ∧ i = 16) ∧ a ≠ 19) → σ7 a i = σ a i := fun a i h => by rw [eσ7, zq_up_ne h.1]; exact hFσ1 a i h
  refine zr_iload_n (pc := 10) hV dX12_line_10 rfl rfl ?_
  refine zr_if_ge (pc := 11) hV 24 dX12_line_11 (by decide) (by omega) (fun c1 => ?_) (fun c1 => ?_)
  · show V 24 [some (ZR 0), some (ZI r1)] [] 41 σ7
    refine zr_aload_n (pc := 24) hV dX12_line_24 rfl rfl ?_
    refine zr_iload_n (pc := 25) hV dX12_line_25 rfl rfl ?_
    refine zr_callVp (pc := 26) hV [ZI r1] (st := []) (c_X12_bitsOf (σ := σ7) hσ7 r1 (by omega)) dX12_line_26 mX12_393 rfl (by decide) (by decide) (Nat.le_of_ble_eq_true rfl) (Nat.le_refl _) (fun r26 hr26 pr26 => ?_)
    have t2 := zx_g2 hσ7
    have t3 : σ7 0 2 = σ1 0 2 := by rw [eσ7]; exact zq_up_ne (by omega)
    have t4 : σ1 0 2 = σ 0 2 := hfσ1 _ _ (by omega)
    show V 29 [some (ZR 0), some (ZI r1)] [ZI r26] 41 σ7
    have t5 := zx_g14 hσ7
    have t6 : σ7 0 14 = 0 := by rw [eσ7]; exact zq_up_same _ _ _ _
    exact zr_iret (pc := 29) hV dX12_line_29 rfl rfl ⟨_, rfl, (by omega), hσ7, hFσ7, (by omega)⟩
  · show V 14 [some (ZR 0), some (ZI r1)] [] 41 σ7
    refine zr_bipush (pc := 14) hV (-20) dX12_line_14 (by decide) ?_
    refine zr_aload_n (pc := 16) hV dX12_line_16 rfl rfl ?_
    refine zr_getI (pc := 17) hV 15 dX12_line_17 fX12_200 rfl rfl rfl (by decide) ?_
    have t7 := zx_g15 hσ7
    have t8 : σ7 0 15 = σ1 0 15 := by rw [eσ7]; exact zq_up_ne (by omega)
    refine zr_isub (pc := 20) hV dX12_line_20 ?_
    refine zr_goto (pc := 21) hV 29 dX12_line_21 (by decide) ?_
    show V 29 [some (ZR 0), some (ZI r1)] [ZI ((-20) - (σ7 0 15))] 41 σ7
    have t9 := zx_g14 hσ7
    have t10 : σ7 0 14 = 0 := by rw [eσ7]; exact zq_up_same _ _ _ _
    exact zr_iret (pc := 29) hV dX12_line_29 rfl rfl ⟨_, rfl, (by omega), hσ7, hFσ7, (by omega)⟩
