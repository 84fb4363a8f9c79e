set_option maxHeartbeats 800000 in
theorem c_X12_holes3 {σ : zq_S} (hσ : zx_T σ)  (Mσ : zx_M σ) (Wσ : zx_W σ) : zq_C zx_w yX12_holes cX12_holes 3 (some .int) 3 69 41 41 [ZR 0] σ (zq_pi (fun r τ => zx_T τ ∧ (∀ a i : Int, (¬ (a = 0 ∧ i = 30) ∧ a ≠ 18) → τ a i = σ a i) ∧ (r = zu_ct (zu_hb σ) (zx_p2 (σ 0 2))) ∧ zx_M τ ∧ zx_W τ)) := by
  refine zq_C_of (by decide) (Nat.le_refl _) (Nat.le_of_ble_eq_true rfl) [some (ZR 0), none, none] rfl (fun V hV => ?_)
  have zpp0 := zx_p2_pos (σ 0 2)
  show V 0 [some (ZR 0), none, none] [] 41 σ
  refine zr_iconst (pc := 0) hV 0 dX12_holes_0 rfl ?_
  refine zr_istore_n (pc := 1) hV [some (ZR 0), some (ZI 0), none] dX12_holes_1 rfl (by decide) rfl rfl ?_
  refine zr_iconst (pc := 2) hV 0 dX12_holes_2 rfl ?_
  refine zr_istore_n (pc := 3) hV [some (ZR 0), some (ZI 0), some (ZI 0)] dX12_holes_3 rfl (by decide) rfl rfl ?_
  have L4 : ∀ (fuel : Nat) (x1_4 : Int) (x2_4 : Int) (σ_4 : zq_S), (0 ≤ x1_4 ∧ x1_4 ≤ 4096) → (0 ≤ x2_4 ∧ x2_4 ≤ 4096) → (zx_T σ_4) → (∀ a i : Int, (¬ (a = 0 ∧ i = 30) ∧ a ≠ 18) → σ_4 a i = σ a i) → (zx_M σ_4) → (zx_W σ_4) → (x1_4 = zu_ct (zu_hb σ) x2_4) → (x1_4 ≤ x2_4 ∧ x2_4 ≤ zx_p2 (σ 0 2)) → 4096 - x2_4 < (fuel : Int) → V 4 [some (ZR 0), some (ZI x1_4), some (ZI x2_4)] [] 41 σ_4 := by
    intro fuel
    induction fuel with
    | zero =>
      intro x1_4 x2_4 σ_4 hx1_4 hx2_4 hσ_4 hFσ_4 Mσ_4 Wσ_4 hi4_0 hi4_1 hm4
      exfalso; omega
    | succ fuel ih =>
      intro x1_4 x2_4 σ_4 hx1_4 hx2_4 hσ_4 hFσ_4 Mσ_4 Wσ_4 hi4_0 hi4_1 hm4
      have ih4 := ih
      show V 4 [some (ZR 0), some (ZI x1_4), some (ZI x2_4)] [] 41 σ_4
      refine zr_iload_n (pc := 4) hV dX12_holes_4 rfl rfl ?_
      refine zr_iconst (pc := 5) hV 1 dX12_holes_5 rfl ?_
      refine zr_aload_n (pc := 6) hV dX12_holes_6 rfl rfl ?_
      refine zr_getI (pc := 7) hV 2 dX12_holes_7 fX12_16 rfl rfl rfl (by decide) ?_
      have t1 := zx_g2 hσ_4
      have t2 : σ_4 0 2 = σ 0 2 := hFσ_4 _ _ (by omega)
      refine zr_ishl (pc := 10) hV dX12_holes_10 ?_
      have t3 := zx_shl_one (y := σ_4 0 2) 12 4096 (by decide) (by decide) (by omega)
      have cb : zx_p2 (σ_4 0 2) = zx_p2 (σ 0 2) := by rw [hFσ_4 0 2 (by omega)]
      refine zr_icmp_ge (pc := 11) hV 36 dX12_holes_11 (by decide) (by omega) (by omega) (fun c4 => ?_) (fun c4 => ?_)
      · show V 36 [some (ZR 0), some (ZI x1_4), some (ZI x2_4)] [] 41 σ_4
        refine zr_iload_n (pc := 36) hV dX12_holes_36 rfl rfl ?_
        exact zr_iret (pc := 37) hV dX12_holes_37 rfl rfl ⟨_, rfl, (by omega), hσ_4, hFσ_4, (by rw [show zx_p2 (σ 0 2) = x2_4 by omega]; exact hi4_0), Mσ_4, Wσ_4⟩
      · show V 14 [some (ZR 0), some (ZI x1_4), some (ZI x2_4)] [] 41 σ_4
        refine zr_iload_n (pc := 14) hV dX12_holes_14 rfl rfl ?_
        refine zr_aload_n (pc := 15) hV dX12_holes_15 rfl rfl ?_
        refine zr_iload_n (pc := 16) hV dX12_holes_16 rfl rfl ?_
        refine zr_callVi (pc := 17) hV [ZI x2_4] (st := [ZI x1_4]) (c_X12_ownerOf2 (σ := σ_4) hσ_4 x2_4 (by omega) Mσ_4 Wσ_4) dX12_holes_17 mX12_283 rfl (by decide) (by decide) (Nat.le_of_ble_eq_true rfl) (Nat.le_refl _) (fun r17 σ17 hr17 pσ17 => ?_)
        obtain ⟨hσ17, hfσ17, pσ17⟩ := pσ17
        have Mσ17 : zx_M σ17 := pσ17.2.2.2.2.2.1
        have Wσ17 : zx_W σ17 := pσ17.2.2.2.2.2.2
        have hFσ17 : ∀ a i : Int, (¬ (a = 0 ∧ i = 30) ∧ a ≠ 18) → σ17 a i = σ a i := fun a i h => (hfσ17 a i ⟨h.1, h.2⟩).trans (hFσ_4 a i h)
        have t5 := zx_g30 hσ_4
        have t6 := zx_g30 hσ17
        have zow : zt_ow σ x2_4 r17 := by have q := Wσ17 pσ17.2.2.2.1 x2_4 (by omega) (by rw [hfσ17 0 2 (by omega)]; omega); rw [← pσ17.2.2.1] at q; exact zt_ow_fr (fun i => (hFσ17 2 i (by omega)).symm) (hFσ17 0 3 (by omega)).symm (hFσ17 0 2 (by omega)).symm q
        refine zr_if_ge (pc := 20) hV 27 dX12_holes_20 (by decide) (by omega) (fun c7 => ?_) (fun c7 => ?_)
        · show V 27 [some (ZR 0), some (ZI x1_4), some (ZI x2_4)] [ZI x1_4] 41 σ17
          refine zr_iconst (pc := 27) hV 0 dX12_holes_27 rfl ?_
          show V 28 [some (ZR 0), some (ZI x1_4), some (ZI x2_4)] [ZI 0, ZI x1_4] 41 σ17
          refine zr_iadd (pc := 28) hV dX12_holes_28 ?_
          refine zr_istore_n (pc := 29) hV [some (ZR 0), some (ZI (x1_4 + 0)), some (ZI x2_4)] dX12_holes_29 rfl (by decide) rfl rfl ?_
          refine zr_iinc (pc := 30) hV [some (ZR 0), some (ZI (x1_4 + 0)), some (ZI (x2_4 + 1))] (x2_4 + 1) dX12_holes_30 rfl rfl (by decide) rfl rfl ?_
          refine zr_goto (pc := 33) hV 4 dX12_holes_33 (by decide) ?_
          exact ih4 (x1_4 + 0) (x2_4 + 1) σ17 (by omega) (by omega) hσ17 hFσ17 Mσ17 Wσ17 (by rw [zu_ct_n (by omega) (zu_hb_n (fun q => q r17 (by omega) (zow.2 (by omega)).1 (zow.2 (by omega)).2.1)), ← hi4_0]; omega) (by omega) (by omega)
        · show V 23 [some (ZR 0), some (ZI x1_4), some (ZI x2_4)] [ZI x1_4] 41 σ17
          refine zr_iconst (pc := 23) hV 1 dX12_holes_23 rfl ?_
          refine zr_goto (pc := 24) hV 28 dX12_holes_24 (by decide) ?_
          show V 28 [some (ZR 0), some (ZI x1_4), some (ZI x2_4)] [ZI 1, ZI x1_4] 41 σ17
          refine zr_iadd (pc := 28) hV dX12_holes_28 ?_
          refine zr_istore_n (pc := 29) hV [some (ZR 0), some (ZI (x1_4 + 1)), some (ZI x2_4)] dX12_holes_29 rfl (by decide) rfl rfl ?_
          refine zr_iinc (pc := 30) hV [some (ZR 0), some (ZI (x1_4 + 1)), some (ZI (x2_4 + 1))] (x2_4 + 1) dX12_holes_30 rfl rfl (by decide) rfl rfl ?_
          refine zr_goto (pc := 33) hV 4 dX12_holes_33 (by decide) ?_
          exact ih4 (x1_4 + 1) (x2_4 + 1) σ17 (by omega) (by omega) hσ17 hFσ17 Mσ17 Wσ17 (by rw [zu_ct_y (by omega) (zu_hb_y (zow.1 (by omega)).2), ← hi4_0]) (by omega) (by omega)
  exact L4 (4096 - (0 : Int) + 1 : Int).toNat 0 0 σ (by omega) (by omega) hσ (fun a i _ => rfl) Mσ Wσ (zu_ct_0 _).symm (by omega) (by omega)
