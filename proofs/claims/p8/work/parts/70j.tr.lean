set_option maxHeartbeats 800000 in
theorem c_X12_isBits2 {σ : zq_S} (hσ : zx_T σ) (bits : Int) (q0 : zq_in bits) : zq_C zx_w yX12_isBits cX12_isBits 2 (some .boolean) 1 25 41 41 [ZR 0, ZI bits] σ (zq_pp σ (fun r => (r = 0 ∨ r = 1) ∧ (r = 1 ↔ 0 ≤ bits ∧ bits < zx_p2 (σ 0 2)) ∧ (r = 1 → bits ≤ 4095))) := by
  refine zq_C_of (by decide) (Nat.le_refl _) (Nat.le_of_ble_eq_true rfl) [some (ZR 0), some (ZI bits)] rfl (fun V hV => ?_)
  show V 0 [some (ZR 0), some (ZI bits)] [] 41 σ
  refine zr_iload_n (pc := 0) hV dX12_isBits_0 rfl rfl ?_
  refine zr_i2l (pc := 1) hV dX12_isBits_1 (by omega) ?_
  refine zr_lconst (pc := 2) hV 0 dX12_isBits_2 (by decide) ?_
  refine zr_iconst (pc := 3) hV 1 dX12_isBits_3 rfl ?_
  refine zr_aload_n (pc := 4) hV dX12_isBits_4 rfl rfl ?_
  refine zr_getI (pc := 5) hV 2 dX12_isBits_5 fX12_16 rfl rfl rfl (by decide) ?_
  have t1 := zx_g2 hσ
  refine zr_ishl (pc := 8) hV dX12_isBits_8 ?_
  have t2 := zx_shl_one (y := σ 0 2) 12 4096 (by decide) (by decide) (by omega)
  refine zr_iconst (pc := 9) hV 1 dX12_isBits_9 rfl ?_
  refine zr_isub (pc := 10) hV dX12_isBits_10 ?_
  refine zr_i2l (pc := 11) hV dX12_isBits_11 (by omega) ?_
  refine zr_callSp (pc := 12) hV [ZL bits, ZL 0, ZL ((zq_shl 1 (σ 0 2)) - 1)] (st := []) (c_X12_in (σ := σ) bits 0 ((zq_shl 1 (σ 0 2)) - 1) (by omega) (by omega) (by omega)) dX12_isBits_12 mX12_170 (by decide) (Nat.le_of_ble_eq_true rfl) (Nat.le_refl _) (fun r12 hr12 pr12 => ?_)
  exact zr_zret (pc := 15) hV dX12_isBits_15 rfl rfl (by omega) ⟨rfl, _, rfl, (by omega), (by omega)⟩
set_option maxHeartbeats 800000 in
theorem c_X12_look3 {σ : zq_S} (hσ : zx_T σ) (bits : Int) (q0 : zq_in bits) (Mσ : zx_M σ) (Wσ : zx_W σ) : zq_C zx_w yX12_look cX12_look 2 (some .int) 3 69 41 41 [ZR 0, ZI bits] σ (zq_pi (fun r τ => zx_T τ ∧ (∀ a i : Int, (¬ (a = 0 ∧ i = 30) ∧ a ≠ 18) → τ a i = σ a i) ∧ ((¬ (0 ≤ bits ∧ bits < zx_p2 (σ 0 2)) → r = -1)) ∧ zq_hid (0 ≤ bits ∧ bits < zx_p2 (σ 0 2) → zt_ow σ bits r) ∧ zx_M τ ∧ zx_W τ)) := by
  refine zq_C_of (by decide) (Nat.le_refl _) (Nat.le_of_ble_eq_true rfl) [some (ZR 0), some (ZI bits)] rfl (fun V hV => ?_)
  show V 0 [some (ZR 0), some (ZI bits)] [] 41 σ
  refine zr_aload_n (pc := 0) hV dX12_look_0 rfl rfl ?_
  refine zr_iload_n (pc := 1) hV dX12_look_1 rfl rfl ?_
  refine zr_callVp (pc := 2) hV [ZI bits] (st := []) (c_X12_isBits2 (σ := σ) hσ bits (by omega)) dX12_look_2 mX12_280 rfl (by decide) (by decide) (Nat.le_of_ble_eq_true rfl) (Nat.le_refl _) (fun r2 hr2 pr2 => ?_)
  have t1 := zx_g2 hσ
  refine zr_if_eq (pc := 5) hV 16 dX12_look_5 (by decide) (by omega) (fun c2 => ?_) (fun c2 => ?_)
  · show V 16 [some (ZR 0), some (ZI bits)] [] 41 σ
    refine zr_iconst (pc := 16) hV (-1) dX12_look_16 rfl ?_
    show V 17 [some (ZR 0), some (ZI bits)] [ZI (-1)] 41 σ
    exact zr_iret (pc := 17) hV dX12_look_17 rfl rfl ⟨_, rfl, ⟨by decide, by decide⟩, hσ, (fun a i _ => rfl), (by omega), (show 0 ≤ bits ∧ bits < zx_p2 (σ 0 2) → zt_ow σ bits ((-1) : Int) from (fun h => absurd h (by omega))), Mσ, Wσ⟩
  · show V 8 [some (ZR 0), some (ZI bits)] [] 41 σ
    refine zr_aload_n (pc := 8) hV dX12_look_8 rfl rfl ?_
    refine zr_iload_n (pc := 9) hV dX12_look_9 rfl rfl ?_
    refine zr_callVi (pc := 10) hV [ZI bits] (st := []) (c_X12_ownerOf2 (σ := σ) hσ bits (by omega) Mσ Wσ) dX12_look_10 mX12_283 rfl (by decide) (by decide) (Nat.le_of_ble_eq_true rfl) (Nat.le_refl _) (fun r10 σ10 hr10 pσ10 => ?_)
    obtain ⟨hσ10, hfσ10, pσ10⟩ := pσ10
    have Mσ10 : zx_M σ10 := pσ10.2.2.2.2.2.1
    have Wσ10 : zx_W σ10 := pσ10.2.2.2.2.2.2
    have hFσ10 : ∀ a i : Int, (¬ (a = 0 ∧ i = 30) ∧ a ≠ 18) → σ10 a i = σ a i := fun a i h => (hfσ10 a i ⟨h.1, h.2⟩)
    have t3 := zx_g30 hσ
    have t4 := zx_g30 hσ10
    refine zr_goto (pc := 13) hV 17 dX12_look_13 (by decide) ?_
    show V 17 [some (ZR 0), some (ZI bits)] [ZI r10] 41 σ10
    exact zr_iret (pc := 17) hV dX12_look_17 rfl rfl ⟨_, rfl, (by omega), hσ10, hFσ10, (by omega), (show 0 ≤ bits ∧ bits < zx_p2 (σ 0 2) → zt_ow σ bits r10 from (fun _ => by have q := Wσ10 pσ10.2.2.2.1 bits (by omega) (by rw [hfσ10 0 2 (by omega)]; omega); rw [← pσ10.2.2.1] at q; exact zt_ow_fr (fun i => (hFσ10 2 i (by omega)).symm) (hFσ10 0 3 (by omega)).symm (hFσ10 0 2 (by omega)).symm q)), Mσ10, Wσ10⟩
