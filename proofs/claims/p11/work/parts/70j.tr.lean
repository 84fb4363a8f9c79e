set_option maxHeartbeats 800000 in
theorem c_X12_isBits2 {σ : zq_S} (hσ : zx_T σ) (bits : Int) (q0 : zq_in bits) : zq_C zx_w yX12_isBits cX12_isBits 2 (some .boolean) 1 25 41 41 [ZR 0, ZI bits] σ (zq_pp σ (fun r => (r = 0 ∨ r = 1) ∧ (r = 1 ↔ 0 ≤ bits ∧ bits < zx_p2 (σ 0 2)) ∧ (r = 1 → bits ≤ 4095))) := by
  refine zq_C_of (by decide) (Nat.le_refl _) (Nat.le_of_ble_eq_true rfl) [some (ZR 0), some (ZI bits)] rfl (fun V hV => ?_)
  show V 0 [some (ZR 0), some (ZI bits)] [] 41 σ
  refine zr_iload_n (pc := 0) hV dX12_isBits_0 rfl rfl ?_
  refine zr_i2l (pc := 1) hV dX12_isBits_1 (by omega) ?_
  refine zr_lconst (pc := 2) hV 0 dX12_isBits_2 (by decide) ?_
  refine zr_iconst (pc := 3) hV 1 dX12_isBits_3 rfl ?_
  refine zr_aload_n (pc := 4) hV dX12_isBits_4 rfl rfl ?_
  refine zr_getI (pc := 5) hV 2 dX12_isBits_5 fX12_16 rfl rfl rfl (by decide) ?_
  have t1 := zx_g2 hσ
  refine zr_ishl (pc := 8) hV dX12_isBits_8 ?_
  have t2 := zx_shl_one (y := σ 0 2) 12 4096 (by decide) (by decide) (by omega)
  refine zr_iconst (pc := 9) hV 1 dX12_isBits_9 rfl ?_
  refine zr_isub (pc := 10) hV dX12_isBits_10 ?_
  refine zr_i2l (pc := 11) hV dX12_isBits_11 (by omega) ?_
  refine zr_callSp (pc := 12) hV [ZL bits, ZL 0, ZL ((zq_shl 1 (σ 0 2)) - 1)] (st := []) (c_X12_in (σ := σ) bits 0 ((zq_shl 1 (σ 0 2)) - 1) (by omega) (by omega) (by omega)) dX12_isBits_12 mX12_170 (by decide) (Nat.le_of_ble_eq_true rfl) (Nat.le_refl _) (fun r12 hr12 pr12 => ?_)
  exact zr_zret (pc := 15) hV dX12_isBits_15 rfl rfl (by omega) ⟨rfl, _, rfl, (by omega), (by omega)⟩
set_option maxHeartbeats 800000 in
theorem c_X12_hole3 {σ : zq_S} (hσ : zx_T σ) (from_ : Int) (q0 : zq_in from_) (Mσ : zx_M σ) (Wσ : zx_W σ) : zq_C zx_w yX12_hole cX12_hole 3 (some .int) 3 69 41 41 [ZR 0, ZI from_] σ (zq_pi (fun r τ => zx_T τ ∧ (∀ a i : Int, (¬ (a = 0 ∧ i = 30) ∧ a ≠ 18) → τ a i = σ a i) ∧ ((¬ (0 ≤ from_ ∧ from_ < zx_p2 (σ 0 2)) → r = -1)) ∧ zq_hid (0 ≤ from_ ∧ from_ < zx_p2 (σ 0 2) → zu_first (zt_hl σ) from_ (zx_p2 (σ 0 2)) r) ∧ zx_M τ ∧ zx_W τ)) := by
  refine zq_C_of (by decide) (Nat.le_refl _) (Nat.le_of_ble_eq_true rfl) [some (ZR 0), some (ZI from_), none] rfl (fun V hV => ?_)
  show V 0 [some (ZR 0), some (ZI from_), none] [] 41 σ
  refine zr_aload_n (pc := 0) hV dX12_hole_0 rfl rfl ?_
  refine zr_iload_n (pc := 1) hV dX12_hole_1 rfl rfl ?_
  refine zr_callVp (pc := 2) hV [ZI from_] (st := []) (c_X12_isBits2 (σ := σ) hσ from_ (by omega)) dX12_hole_2 mX12_280 rfl (by decide) (by decide) (Nat.le_of_ble_eq_true rfl) (Nat.le_refl _) (fun r2 hr2 pr2 => ?_)
  have t1 := zx_g2 hσ
  refine zr_if_ne (pc := 5) hV 10 dX12_hole_5 (by decide) (by omega) (fun c2 => ?_) (fun c2 => ?_)
  · show V 10 [some (ZR 0), some (ZI from_), none] [] 41 σ
    refine zr_iload_n (pc := 10) hV dX12_hole_10 rfl rfl ?_
    refine zr_istore_n (pc := 11) hV [some (ZR 0), some (ZI from_), some (ZI from_)] dX12_hole_11 rfl (by decide) rfl rfl ?_
    have L12 : ∀ (fuel : Nat) (x2_12 : Int) (σ_12 : zq_S), (0 ≤ x2_12 ∧ x2_12 ≤ 4096) → (zx_T σ_12) → (∀ a i : Int, (¬ (a = 0 ∧ i = 30) ∧ a ≠ 18) → σ_12 a i = σ a i) → (zx_M σ_12) → (zx_W σ_12) → (zq_hid (∀ y, from_ ≤ y → y < x2_12 → ¬ zt_hl σ y)) → (from_ ≤ x2_12) → 4096 - x2_12 < (fuel : Int) → V 12 [some (ZR 0), none, some (ZI x2_12)] [] 41 σ_12 := by
      intro fuel
      induction fuel with
      | zero =>
        intro x2_12 σ_12 hx2_12 hσ_12 hFσ_12 Mσ_12 Wσ_12 hi12_0 hi12_1 hm12
        exfalso; omega
      | succ fuel ih =>
        intro x2_12 σ_12 hx2_12 hσ_12 hFσ_12 Mσ_12 Wσ_12 hi12_0 hi12_1 hm12
        have ih12 := ih
        show V 12 [some (ZR 0), none, some (ZI x2_12)] [] 41 σ_12
        refine zr_iload_n (pc := 12) hV dX12_hole_12 rfl rfl ?_
        refine zr_iconst (pc := 13) hV 1 dX12_hole_13 rfl ?_
        refine zr_aload_n (pc := 14) hV dX12_hole_14 rfl rfl ?_
        refine zr_getI (pc := 15) hV 2 dX12_hole_15 fX12_16 rfl rfl rfl (by decide) ?_
        have t3 := zx_g2 hσ_12
        have t4 : σ_12 0 2 = σ 0 2 := hFσ_12 _ _ (by omega)
        refine zr_ishl (pc := 18) hV dX12_hole_18 ?_
        have t5 := zx_shl_one (y := σ_12 0 2) 12 4096 (by decide) (by decide) (by omega)
        have cb : zx_p2 (σ_12 0 2) = zx_p2 (σ 0 2) := by rw [hFσ_12 0 2 (by omega)]
        refine zr_icmp_ge (pc := 19) hV 38 dX12_hole_19 (by decide) (by omega) (by omega) (fun c6 => ?_) (fun c6 => ?_)
        · show V 38 [some (ZR 0), none, some (ZI x2_12)] [] 41 σ_12
          refine zr_bipush (pc := 38) hV (-4) dX12_hole_38 (by decide) ?_
          exact zr_iret (pc := 40) hV dX12_hole_40 rfl rfl ⟨_, rfl, ⟨by decide, by decide⟩, hσ_12, hFσ_12, (by omega), (show 0 ≤ from_ ∧ from_ < zx_p2 (σ 0 2) → zu_first (zt_hl σ) from_ (zx_p2 (σ 0 2)) ((-4) : Int) from (fun _ => ⟨fun h => absurd h (by decide), fun _ => ⟨rfl, fun y h0 h1 => hi12_0 y h0 (by omega)⟩⟩)), Mσ_12, Wσ_12⟩
        · show V 22 [some (ZR 0), none, some (ZI x2_12)] [] 41 σ_12
          refine zr_aload_n (pc := 22) hV dX12_hole_22 rfl rfl ?_
          refine zr_iload_n (pc := 23) hV dX12_hole_23 rfl rfl ?_
          refine zr_callVi (pc := 24) hV [ZI x2_12] (st := []) (c_X12_ownerOf2 (σ := σ_12) hσ_12 x2_12 (by omega) Mσ_12 Wσ_12) dX12_hole_24 mX12_283 rfl (by decide) (by decide) (Nat.le_of_ble_eq_true rfl) (Nat.le_refl _) (fun r24 σ24 hr24 pσ24 => ?_)
          obtain ⟨hσ24, hfσ24, pσ24⟩ := pσ24
          have Mσ24 : zx_M σ24 := pσ24.2.2.2.2.2.1
          have Wσ24 : zx_W σ24 := pσ24.2.2.2.2.2.2
          have hFσ24 : ∀ a i : Int, (¬ (a = 0 ∧ i = 30) ∧ a ≠ 18) → σ24 a i = σ a i := fun a i h => (hfσ24 a i ⟨h.1, h.2⟩).trans (hFσ_12 a i h)
          have t7 := zx_g30 hσ_12
          have t8 := zx_g30 hσ24
          have zow : zt_ow σ x2_12 r24 := by have q := Wσ24 pσ24.2.2.2.1 x2_12 (by omega) (by rw [hfσ24 0 2 (by omega)]; omega); rw [← pσ24.2.2.1] at q; exact zt_ow_fr (fun i => (hFσ24 2 i (by omega)).symm) (hFσ24 0 3 (by omega)).symm (hFσ24 0 2 (by omega)).symm q
          refine zr_if_ge (pc := 27) hV 32 dX12_hole_27 (by decide) (by omega) (fun c9 => ?_) (fun c9 => ?_)
          · show V 32 [some (ZR 0), none, some (ZI x2_12)] [] 41 σ24
            refine zr_iinc (pc := 32) hV [some (ZR 0), none, some (ZI (x2_12 + 1))] (x2_12 + 1) dX12_hole_32 rfl rfl (by decide) rfl rfl ?_
            refine zr_goto (pc := 35) hV 12 dX12_hole_35 (by decide) ?_
            exact ih12 (x2_12 + 1) σ24 (by omega) hσ24 hFσ24 Mσ24 Wσ24 (fun y h0 h1 => if hc : y = x2_12 then (by rw [hc]; exact fun q => q r24 (by omega) (zow.2 (by omega)).1 (zow.2 (by omega)).2.1) else hi12_0 y h0 (by omega)) (by omega) (by omega)
          · show V 30 [some (ZR 0), none, some (ZI x2_12)] [] 41 σ24
            refine zr_iload_n (pc := 30) hV dX12_hole_30 rfl rfl ?_
            exact zr_iret (pc := 31) hV dX12_hole_31 rfl rfl ⟨_, rfl, (by omega), hσ24, hFσ24, (by omega), (show 0 ≤ from_ ∧ from_ < zx_p2 (σ 0 2) → zu_first (zt_hl σ) from_ (zx_p2 (σ 0 2)) x2_12 from (fun _ => ⟨fun _ => ⟨by omega, by omega, (zow.1 (by omega)).2, hi12_0⟩, fun h => absurd h (by omega)⟩)), Mσ24, Wσ24⟩
    refine zr_sub (pc := 12) hV [some (ZR 0), none, some (ZI from_)] (⟨rfl, rfl, trivial⟩) ?_
    exact L12 (4096 - from_ + 1 : Int).toNat from_ σ (by omega) hσ (fun a i _ => rfl) Mσ Wσ (fun y h0 h1 => absurd h1 (by omega)) (by omega) (by omega)
  · show V 8 [some (ZR 0), some (ZI from_), none] [] 41 σ
    refine zr_iconst (pc := 8) hV (-1) dX12_hole_8 rfl ?_
    exact zr_iret (pc := 9) hV dX12_hole_9 rfl rfl ⟨_, rfl, ⟨by decide, by decide⟩, hσ, (fun a i _ => rfl), (by omega), (show 0 ≤ from_ ∧ from_ < zx_p2 (σ 0 2) → zu_first (zt_hl σ) from_ (zx_p2 (σ 0 2)) ((-1) : Int) from (fun h => absurd h (by omega))), Mσ, Wσ⟩
