set_option maxHeartbeats 800000 in
theorem c_X12_readOrder3 {σ : zq_S} (hσ : zx_T σ) (o : Int) (q0 : 0 ≤ o ∧ o ≤ 20) (q1 : ∀ i, 0 ≤ i → i < σ 0 14 → 0 ≤ σ 10 i) : zq_C zx_w yX12_readOrder cX12_readOrder 4 (some .boolean) 5 120 41 41 [ZR 0, ZI o] σ (zq_pi (fun r τ => zx_T τ ∧ (∀ a i : Int, (¬ (a = 0 ∧ i = 15) ∧ ¬ (a = 0 ∧ i = 16) ∧ ¬ (a = 0 ∧ i = 17) ∧ ¬ (a = 1 ∧ i = o) ∧ ¬ (a = 2 ∧ 12 * o ≤ i ∧ i < 12 * o + 12) ∧ ¬ (a = 3 ∧ i = o) ∧ ¬ (a = 4 ∧ i = o) ∧ ¬ (a = 5 ∧ i = o) ∧ ¬ (a = 6 ∧ 18 * o ≤ i ∧ i < 18 * o + 18) ∧ ¬ (a = 7 ∧ i = o)) → τ a i = σ a i) ∧ (0 ≤ r ∧ r ≤ 1) ∧ zq_hid ((r = 1 → ¬ (∃ i, 0 ≤ i ∧ i < σ 0 3 ∧ σ 1 i = zt_nb (σ 10) (zt_z0 (σ 10) (σ 0 14)) (zt_n0 (σ 10) (σ 0 14))) ∧ zt_oK (σ 10) (σ 0 14) (σ 0 2) (σ 0 1) (σ 0 0) ∧ zt_cR τ o (σ 10) (σ 0 14) (σ 0 2) ∧ zx_A τ o ∧ zx_B τ o ∧ 1 ≤ τ 7 o) ∧ (r = 0 → ((∃ i, 0 ≤ i ∧ i < σ 0 3 ∧ σ 1 i = zt_nb (σ 10) (zt_z0 (σ 10) (σ 0 14)) (zt_n0 (σ 10) (σ 0 14))) → τ 0 15 = (zt_z0 (σ 10) (σ 0 14))) ∧ (¬ (∃ i, 0 ≤ i ∧ i < σ 0 3 ∧ σ 1 i = zt_nb (σ 10) (zt_z0 (σ 10) (σ 0 14)) (zt_n0 (σ 10) (σ 0 14))) → ¬ zt_oK (σ 10) (σ 0 14) (σ 0 2) (σ 0 1) (σ 0 0) ∧ τ 0 15 = zt_oF (σ 10) (σ 0 14) (σ 0 2) (σ 0 1) (σ 0 0)))))) := by
  refine zq_C_of (by decide) (Nat.le_refl _) (Nat.le_of_ble_eq_true rfl) [some (ZR 0), some (ZI o), none, none] rfl (fun V hV => ?_)
  have z14 := zx_g14 hσ
  have zb2 := zx_g2 hσ
  show V 0 [some (ZR 0), some (ZI o), none, none] [] 41 σ
  refine zr_aload_n (pc := 0) hV dX12_readOrder_0 rfl rfl ?_
  refine zr_iconst (pc := 1) hV 0 dX12_readOrder_1 rfl ?_
  refine zr_putI (pc := 2) hV 15 dX12_readOrder_2 fX12_200 rfl rfl rfl rfl (by decide) (fun σ2 eσ2 => ?_)
  have hσ2 : zx_T σ2 := zx_u15 eσ2 hσ (by omega)
  have hFσ2 : ∀ a i : Int, (¬ (a = 0 ∧ i = 15) ∧ ¬ (a = 0 ∧ i = 16) ∧ ¬ (a = 0 ∧ i = 17) ∧ ¬ (a = 1 ∧ i = o) ∧ ¬ (a = 2 ∧ 12 * o ≤ i ∧ i < 12 * o + 12) ∧ ¬ (a = 3 ∧ i = o) ∧ ¬ (a = 4 ∧ i = o) ∧ ¬ (a = 5 ∧ i = o) ∧ ¬ (a = 6 ∧ 18 * o ≤ i ∧ i < 18 * o + 18) ∧ ¬ (a = 7 ∧ i = o)) → σ2 a i = σ a i := fun a i h => by rw [eσ2, zq_up_ne h.1]
  refine zr_aload_n (pc := 5) hV dX12_readOrder_5 rfl rfl ?_
  refine zr_getR (pc := 6) hV 4 1 dX12_readOrder_6 fX12_19 rfl rfl rfl (by decide) (zx_g4 hσ2) (by omega) ?_
  refine zr_iload_n (pc := 9) hV dX12_readOrder_9 rfl rfl ?_
  refine zr_aload_n (pc := 10) hV dX12_readOrder_10 rfl rfl ?_
  refine zr_callVi (pc := 11) hV [] (st := [ZI o, ZR 1]) (c_X12_readNewName2 (σ := σ2) hσ2 ) dX12_readOrder_11 mX12_248 rfl (by decide) (by decide) (Nat.le_of_ble_eq_true rfl) (Nat.le_refl _) (fun r11 σ11 hr11 pσ11 => ?_)
  obtain ⟨hσ11, hfσ11, pσ11, wσ11⟩ := pσ11
  have hFσ11 : ∀ a i : Int, (¬ (a = 0 ∧ i = 15) ∧ ¬ (a = 0 ∧ i = 16) ∧ ¬ (a = 0 ∧ i = 17) ∧ ¬ (a = 1 ∧ i = o) ∧ ¬ (a = 2 ∧ 12 * o ≤ i ∧ i < 12 * o + 12) ∧ ¬ (a = 3 ∧ i = o) ∧ ¬ (a = 4 ∧ i = o) ∧ ¬ (a = 5 ∧ i = o) ∧ ¬ (a = 6 ∧ 18 * o ≤ i ∧ i < 18 * o + 18) ∧ ¬ (a = 7 ∧ i = o)) → σ11 a i = σ a i := fun a i h => (hfσ11 a i ⟨h.1, h.2.1⟩).trans (hFσ2 a i h)
  have t1 := zx_g14 hσ2
  have t2 : σ2 0 14 = σ 0 14 := by rw [eσ2]; exact zq_up_ne (by omega)
  have t3 := zx_g15 hσ2
  have t4 : σ2 0 15 = 0 := by rw [eσ2]; exact zq_up_same _ _ _ _
  have t5 := zx_g3 hσ2
  have t6 : σ2 0 3 = σ 0 3 := by rw [eσ2]; exact zq_up_ne (by omega)
  have Tσ2 : σ2 10 = σ 10 := funext (fun i => hFσ2 10 i (by omega))
  have Nσ2 : σ2 0 14 = σ 0 14 := hFσ2 0 14 (by omega)
  rw [Tσ2, Nσ2] at pσ11
  rw [Tσ2, Nσ2] at wσ11
  have t7 := zx_g15 hσ11
  have z2 : σ2 0 15 = 0 := by rw [eσ2, zq_up_same]
  rw [z2] at pσ11 wσ11
  refine zr_iast (pc := 14) hV dX12_readOrder_14 rfl (by decide) rfl (by omega) (fun σ14 eσ14 => ?_)
  have hσ14 : zx_T σ14 := zx_ua1 eσ14 hσ11 (by omega)
  have hFσ14 : ∀ a i : Int, (¬ (a = 0 ∧ i = 15) ∧ ¬ (a = 0 ∧ i = 16) ∧ ¬ (a = 0 ∧ i = 17) ∧ ¬ (a = 1 ∧ i = o) ∧ ¬ (a = 2 ∧ 12 * o ≤ i ∧ i < 12 * o + 12) ∧ ¬ (a = 3 ∧ i = o) ∧ ¬ (a = 4 ∧ i = o) ∧ ¬ (a = 5 ∧ i = o) ∧ ¬ (a = 6 ∧ 18 * o ≤ i ∧ i < 18 * o + 18) ∧ ¬ (a = 7 ∧ i = o)) → σ14 a i = σ a i := fun a i h => by rw [eσ14, zq_up_ne (fun q => h.2.2.2.1 ⟨q.1, by omega⟩)]; exact hFσ11 a i h
  refine zr_aload_n (pc := 15) hV dX12_readOrder_15 rfl rfl ?_
  refine zr_getR (pc := 16) hV 4 1 dX12_readOrder_16 fX12_19 rfl rfl rfl (by decide) (zx_g4 hσ14) (by omega) ?_
  refine zr_iload_n (pc := 19) hV dX12_readOrder_19 rfl rfl ?_
  refine zr_iald (pc := 20) hV dX12_readOrder_20 rfl (by decide) rfl (by omega) ?_
  have t8 := zx_ga1 hσ14 o
  have t9 : σ14 1 o = r11 := by rw [eσ14]; exact zq_up_same _ _ _ _
  have z14b : σ14 1 o = r11 := by rw [eσ14, zq_up_same]
  refine zr_if_eq (pc := 21) hV 58 dX12_readOrder_21 (by decide) (by omega) (fun c10 => ?_) (fun c10 => ?_)
  · show V 58 [some (ZR 0), some (ZI o), none, none] [] 41 σ14
    refine zr_iconst (pc := 58) hV 0 dX12_readOrder_58 rfl ?_
    have t11 := zx_g15 hσ14
    have t12 : σ14 0 15 = σ11 0 15 := by rw [eσ14]; exact zq_up_ne (by omega)
    exact zr_zret (pc := 59) hV dX12_readOrder_59 rfl rfl (by omega) ⟨_, rfl, ⟨by decide, by decide⟩, hσ14, hFσ14, ⟨by omega, by omega⟩, (show ((0 : Int) = 1 → ¬ (∃ i, 0 ≤ i ∧ i < σ 0 3 ∧ σ 1 i = zt_nb (σ 10) (zt_z0 (σ 10) (σ 0 14)) (zt_n0 (σ 10) (σ 0 14))) ∧ zt_oK (σ 10) (σ 0 14) (σ 0 2) (σ 0 1) (σ 0 0) ∧ zt_cR σ14 o (σ 10) (σ 0 14) (σ 0 2) ∧ zx_A σ14 o ∧ zx_B σ14 o ∧ 1 ≤ σ14 7 o) ∧ ((0 : Int) = 0 → ((∃ i, 0 ≤ i ∧ i < σ 0 3 ∧ σ 1 i = zt_nb (σ 10) (zt_z0 (σ 10) (σ 0 14)) (zt_n0 (σ 10) (σ 0 14))) → σ14 0 15 = (zt_z0 (σ 10) (σ 0 14))) ∧ (¬ (∃ i, 0 ≤ i ∧ i < σ 0 3 ∧ σ 1 i = zt_nb (σ 10) (zt_z0 (σ 10) (σ 0 14)) (zt_n0 (σ 10) (σ 0 14))) → ¬ zt_oK (σ 10) (σ 0 14) (σ 0 2) (σ 0 1) (σ 0 0) ∧ σ14 0 15 = zt_oF (σ 10) (σ 0 14) (σ 0 2) (σ 0 1) (σ 0 0))) from ⟨fun h => absurd h (by omega), fun _ => ⟨fun _ => by rw [eσ14, zq_up_ne (by omega)]; exact pσ11.2.2.2 (by omega), fun nd => by have z : (zt_n0 (σ 10) (σ 0 14)) = 0 := (wσ11.2 (by omega)).resolve_right (fun ⟨i, h0, h1, h2⟩ => nd ⟨i, h0, by rw [← (show σ2 0 3 = σ 0 3 by rw [eσ2, zq_up_ne (by omega)])]; exact h1, by rw [← (show σ2 1 i = σ 1 i by rw [eσ2, zq_up_ne (by omega)])]; exact h2⟩); exact ⟨(zt_o1 z).1, by rw [(zt_o1 z).2, eσ14, zq_up_ne (by omega)]; exact pσ11.2.2.2 (by omega)⟩⟩⟩)⟩
  · show V 24 [some (ZR 0), some (ZI o), none, none] [] 41 σ14
    have y1 : (zt_n0 (σ 10) (σ 0 14)) ≠ 0 := (wσ11.1 (by omega)).2.1
    have a1 : σ14 0 15 = (zt_p0 (σ 10) (σ 0 14)) := by rw [eσ14, zq_up_ne (by omega)]; exact pσ11.2.2.1 (by omega)
    have nd : ¬ (∃ i, 0 ≤ i ∧ i < σ 0 3 ∧ σ 1 i = zt_nb (σ 10) (zt_z0 (σ 10) (σ 0 14)) (zt_n0 (σ 10) (σ 0 14))) := fun ⟨i, h0, h1, h2⟩ => (wσ11.1 (by omega)).2.2 i h0 (by rw [eσ2, zq_up_ne (by omega)]; exact h1) (by rw [eσ2, zq_up_ne (by omega)]; exact h2)
    refine zr_aload_n (pc := 24) hV dX12_readOrder_24 rfl rfl ?_
    refine zr_bipush (pc := 25) hV 58 dX12_readOrder_25 (by decide) ?_
    refine zr_callVi (pc := 27) hV [ZI 58] (st := []) (c_X12_takes2 (σ := σ14) hσ14 58 (by omega)) dX12_readOrder_27 mX12_234 rfl (by decide) (by decide) (Nat.le_of_ble_eq_true rfl) (Nat.le_refl _) (fun r27 σ27 hr27 pσ27 => ?_)
    obtain ⟨hσ27, hfσ27, pσ27⟩ := pσ27
    have hFσ27 : ∀ a i : Int, (¬ (a = 0 ∧ i = 15) ∧ ¬ (a = 0 ∧ i = 16) ∧ ¬ (a = 0 ∧ i = 17) ∧ ¬ (a = 1 ∧ i = o) ∧ ¬ (a = 2 ∧ 12 * o ≤ i ∧ i < 12 * o + 12) ∧ ¬ (a = 3 ∧ i = o) ∧ ¬ (a = 4 ∧ i = o) ∧ ¬ (a = 5 ∧ i = o) ∧ ¬ (a = 6 ∧ 18 * o ≤ i ∧ i < 18 * o + 18) ∧ ¬ (a = 7 ∧ i = o)) → σ27 a i = σ a i := fun a i h => (hfσ27 a i h.1).trans (hFσ14 a i h)
    have t13 := zx_g14 hσ14
    have t14 : σ14 0 14 = σ11 0 14 := by rw [eσ14]; exact zq_up_ne (by omega)
    have t15 : σ11 0 14 = σ2 0 14 := hfσ11 _ _ (by omega)
    have t16 : σ2 0 14 = σ 0 14 := by rw [eσ2]; exact zq_up_ne (by omega)
    have t17 := zx_g15 hσ14
    have t18 : σ14 0 15 = σ11 0 15 := by rw [eσ14]; exact zq_up_ne (by omega)
    have Tσ14 : σ14 10 = σ 10 := funext (fun i => hFσ14 10 i (by omega))
    have Nσ14 : σ14 0 14 = σ 0 14 := hFσ14 0 14 (by omega)
    rw [Tσ14, Nσ14] at pσ27
    have t19 := zx_g15 hσ27
    rw [a1] at pσ27
    refine zr_if_eq (pc := 30) hV 58 dX12_readOrder_30 (by decide) (by omega) (fun c20 => ?_) (fun c20 => ?_)
    · show V 58 [some (ZR 0), some (ZI o), none, none] [] 41 σ27
      refine zr_iconst (pc := 58) hV 0 dX12_readOrder_58 rfl ?_
      have t21 := zx_g15 hσ27
      exact zr_zret (pc := 59) hV dX12_readOrder_59 rfl rfl (by omega) ⟨_, rfl, ⟨by decide, by decide⟩, hσ27, hFσ27, ⟨by omega, by omega⟩, (show ((0 : Int) = 1 → ¬ (∃ i, 0 ≤ i ∧ i < σ 0 3 ∧ σ 1 i = zt_nb (σ 10) (zt_z0 (σ 10) (σ 0 14)) (zt_n0 (σ 10) (σ 0 14))) ∧ zt_oK (σ 10) (σ 0 14) (σ 0 2) (σ 0 1) (σ 0 0) ∧ zt_cR σ27 o (σ 10) (σ 0 14) (σ 0 2) ∧ zx_A σ27 o ∧ zx_B σ27 o ∧ 1 ≤ σ27 7 o) ∧ ((0 : Int) = 0 → ((∃ i, 0 ≤ i ∧ i < σ 0 3 ∧ σ 1 i = zt_nb (σ 10) (zt_z0 (σ 10) (σ 0 14)) (zt_n0 (σ 10) (σ 0 14))) → σ27 0 15 = (zt_z0 (σ 10) (σ 0 14))) ∧ (¬ (∃ i, 0 ≤ i ∧ i < σ 0 3 ∧ σ 1 i = zt_nb (σ 10) (zt_z0 (σ 10) (σ 0 14)) (zt_n0 (σ 10) (σ 0 14))) → ¬ zt_oK (σ 10) (σ 0 14) (σ 0 2) (σ 0 1) (σ 0 0) ∧ σ27 0 15 = zt_oF (σ 10) (σ 0 14) (σ 0 2) (σ 0 1) (σ 0 0))) from ⟨fun h => absurd h (by omega), fun _ => ⟨fun d => absurd d nd, fun _ => by have o := zt_o2 (t := σ 10) (n := σ 0 14) (b := σ 0 2) (k := σ 0 1) (w := σ 0 0) y1 (by omega); exact ⟨o.1, by rw [o.2]; omega⟩⟩⟩)⟩
    · show V 33 [some (ZR 0), some (ZI o), none, none] [] 41 σ27
      have y2 : zt_tkR (σ 10) (σ 0 14) 58 (zt_p0 (σ 10) (σ 0 14)) ≠ 0 := by omega
      have a2 : σ27 0 15 = (zt_oL (σ 10) (σ 0 14)) := by unfold zt_oL; omega
      refine zr_aload_n (pc := 33) hV dX12_readOrder_33 rfl rfl ?_
      refine zr_iload_n (pc := 34) hV dX12_readOrder_34 rfl rfl ?_
      refine zr_callVi (pc := 35) hV [ZI o] (st := []) (c_X12_readLook3 (σ := σ27) hσ27 o (by omega)) dX12_readOrder_35 mX12_251 rfl (by decide) (by decide) (Nat.le_of_ble_eq_true rfl) (Nat.le_refl _) (fun r35 σ35 hr35 pσ35 => ?_)
      obtain ⟨hσ35, hfσ35, pσ35, wσ35⟩ := pσ35
      have hFσ35 : ∀ a i : Int, (¬ (a = 0 ∧ i = 15) ∧ ¬ (a = 0 ∧ i = 16) ∧ ¬ (a = 0 ∧ i = 17) ∧ ¬ (a = 1 ∧ i = o) ∧ ¬ (a = 2 ∧ 12 * o ≤ i ∧ i < 12 * o + 12) ∧ ¬ (a = 3 ∧ i = o) ∧ ¬ (a = 4 ∧ i = o) ∧ ¬ (a = 5 ∧ i = o) ∧ ¬ (a = 6 ∧ 18 * o ≤ i ∧ i < 18 * o + 18) ∧ ¬ (a = 7 ∧ i = o)) → σ35 a i = σ a i := fun a i h => (hfσ35 a i ⟨h.1, (fun q => h.2.2.2.2.1 ⟨q.1, by omega⟩)⟩).trans (hFσ27 a i h)
      have t22 := zx_g0 hσ27
      have t23 : σ27 0 0 = σ14 0 0 := hfσ27 _ _ (by omega)
      have t24 : σ14 0 0 = σ11 0 0 := by rw [eσ14]; exact zq_up_ne (by omega)
      have t25 : σ11 0 0 = σ2 0 0 := hfσ11 _ _ (by omega)
      have t26 : σ2 0 0 = σ 0 0 := by rw [eσ2]; exact zq_up_ne (by omega)
      have t27 := zx_g1 hσ27
      have t28 : σ27 0 1 = σ14 0 1 := hfσ27 _ _ (by omega)
      have t29 : σ14 0 1 = σ11 0 1 := by rw [eσ14]; exact zq_up_ne (by omega)
      have t30 : σ11 0 1 = σ2 0 1 := hfσ11 _ _ (by omega)
      have t31 : σ2 0 1 = σ 0 1 := by rw [eσ2]; exact zq_up_ne (by omega)
      have t32 := zx_g14 hσ27
      have t33 : σ27 0 14 = σ14 0 14 := hfσ27 _ _ (by omega)
      have t34 : σ14 0 14 = σ11 0 14 := by rw [eσ14]; exact zq_up_ne (by omega)
      have t35 : σ11 0 14 = σ2 0 14 := hfσ11 _ _ (by omega)
      have t36 : σ2 0 14 = σ 0 14 := by rw [eσ2]; exact zq_up_ne (by omega)
      have t37 := zx_g15 hσ27
      have t38 := zx_g2 hσ27
      have t39 : σ27 0 2 = σ14 0 2 := hfσ27 _ _ (by omega)
      have t40 : σ14 0 2 = σ11 0 2 := by rw [eσ14]; exact zq_up_ne (by omega)
      have t41 : σ11 0 2 = σ2 0 2 := hfσ11 _ _ (by omega)
      have t42 : σ2 0 2 = σ 0 2 := by rw [eσ2]; exact zq_up_ne (by omega)
      have Tσ27 : σ27 10 = σ 10 := funext (fun i => hFσ27 10 i (by omega))
      have Nσ27 : σ27 0 14 = σ 0 14 := hFσ27 0 14 (by omega)
      rw [Tσ27, Nσ27] at pσ35
      rw [Tσ27, Nσ27] at wσ35
      have t43 := zx_g15 hσ35
      have B2 : σ27 0 2 = σ 0 2 := hFσ27 0 2 (by omega)
      have B1 : σ27 0 1 = σ 0 1 := hFσ27 0 1 (by omega)
      have B0 : σ27 0 0 = σ 0 0 := hFσ27 0 0 (by omega)
      rw [a2, B2] at pσ35
      rw [a2, B2, B1, B0] at wσ35
      have a3 : σ35 0 15 = (zt_oE (σ 10) (σ 0 14) (σ 0 2)) := pσ35.2.2
      refine zr_if_eq (pc := 38) hV 58 dX12_readOrder_38 (by decide) (by omega) (fun c44 => ?_) (fun c44 => ?_)
      · show V 58 [some (ZR 0), some (ZI o), none, none] [] 41 σ35
        refine zr_iconst (pc := 58) hV 0 dX12_readOrder_58 rfl ?_
        have t45 := zx_g15 hσ35
        exact zr_zret (pc := 59) hV dX12_readOrder_59 rfl rfl (by omega) ⟨_, rfl, ⟨by decide, by decide⟩, hσ35, hFσ35, ⟨by omega, by omega⟩, (show ((0 : Int) = 1 → ¬ (∃ i, 0 ≤ i ∧ i < σ 0 3 ∧ σ 1 i = zt_nb (σ 10) (zt_z0 (σ 10) (σ 0 14)) (zt_n0 (σ 10) (σ 0 14))) ∧ zt_oK (σ 10) (σ 0 14) (σ 0 2) (σ 0 1) (σ 0 0) ∧ zt_cR σ35 o (σ 10) (σ 0 14) (σ 0 2) ∧ zx_A σ35 o ∧ zx_B σ35 o ∧ 1 ≤ σ35 7 o) ∧ ((0 : Int) = 0 → ((∃ i, 0 ≤ i ∧ i < σ 0 3 ∧ σ 1 i = zt_nb (σ 10) (zt_z0 (σ 10) (σ 0 14)) (zt_n0 (σ 10) (σ 0 14))) → σ35 0 15 = (zt_z0 (σ 10) (σ 0 14))) ∧ (¬ (∃ i, 0 ≤ i ∧ i < σ 0 3 ∧ σ 1 i = zt_nb (σ 10) (zt_z0 (σ 10) (σ 0 14)) (zt_n0 (σ 10) (σ 0 14))) → ¬ zt_oK (σ 10) (σ 0 14) (σ 0 2) (σ 0 1) (σ 0 0) ∧ σ35 0 15 = zt_oF (σ 10) (σ 0 14) (σ 0 2) (σ 0 1) (σ 0 0))) from ⟨fun h => absurd h (by omega), fun _ => ⟨fun d => absurd d nd, fun _ => by have o := zt_look_f ⟨by omega, by omega⟩ (hFσ35 0 2 (by omega)) y1 y2 (wσ35.2 (by omega)); exact ⟨o.1, by rw [o.2]; exact a3⟩⟩⟩)⟩
      · show V 41 [some (ZR 0), some (ZI o), none, none] [] 41 σ35
        have u3 := wσ35.1 (by omega)
        have y3 : (zt_oR (σ 10) (σ 0 14) (σ 0 2)) = σ 0 2 ∧ zt_fok (zt_oM (σ 10) (σ 0 14) (σ 0 2)) (σ 0 1) (σ 0 0) := ⟨u3.1, (zt_fok_r ⟨by omega, by omega⟩ (hFσ35 0 2 (by omega)) u3.2.1).mp u3.2.2.1⟩
        refine zr_aload_n (pc := 41) hV dX12_readOrder_41 rfl rfl ?_
        refine zr_bipush (pc := 42) hV 58 dX12_readOrder_42 (by decide) ?_
        refine zr_callVi (pc := 44) hV [ZI 58] (st := []) (c_X12_takes2 (σ := σ35) hσ35 58 (by omega)) dX12_readOrder_44 mX12_234 rfl (by decide) (by decide) (Nat.le_of_ble_eq_true rfl) (Nat.le_refl _) (fun r44 σ44 hr44 pσ44 => ?_)
        obtain ⟨hσ44, hfσ44, pσ44⟩ := pσ44
        have hFσ44 : ∀ a i : Int, (¬ (a = 0 ∧ i = 15) ∧ ¬ (a = 0 ∧ i = 16) ∧ ¬ (a = 0 ∧ i = 17) ∧ ¬ (a = 1 ∧ i = o) ∧ ¬ (a = 2 ∧ 12 * o ≤ i ∧ i < 12 * o + 12) ∧ ¬ (a = 3 ∧ i = o) ∧ ¬ (a = 4 ∧ i = o) ∧ ¬ (a = 5 ∧ i = o) ∧ ¬ (a = 6 ∧ 18 * o ≤ i ∧ i < 18 * o + 18) ∧ ¬ (a = 7 ∧ i = o)) → σ44 a i = σ a i := fun a i h => (hfσ44 a i h.1).trans (hFσ35 a i h)
        have t46 := zx_g14 hσ35
        have t47 : σ35 0 14 = σ27 0 14 := hfσ35 _ _ (by omega)
        have t48 : σ27 0 14 = σ14 0 14 := hfσ27 _ _ (by omega)
        have t49 : σ14 0 14 = σ11 0 14 := by rw [eσ14]; exact zq_up_ne (by omega)
        have t50 : σ11 0 14 = σ2 0 14 := hfσ11 _ _ (by omega)
        have t51 : σ2 0 14 = σ 0 14 := by rw [eσ2]; exact zq_up_ne (by omega)
        have t52 := zx_g15 hσ35
        have Tσ35 : σ35 10 = σ 10 := funext (fun i => hFσ35 10 i (by omega))
        have Nσ35 : σ35 0 14 = σ 0 14 := hFσ35 0 14 (by omega)
        rw [Tσ35, Nσ35] at pσ44
        have t53 := zx_g15 hσ44
        rw [a3] at pσ44
        refine zr_if_eq (pc := 47) hV 58 dX12_readOrder_47 (by decide) (by omega) (fun c54 => ?_) (fun c54 => ?_)
        · show V 58 [some (ZR 0), some (ZI o), none, none] [] 41 σ44
          refine zr_iconst (pc := 58) hV 0 dX12_readOrder_58 rfl ?_
          have t55 := zx_g15 hσ44
          exact zr_zret (pc := 59) hV dX12_readOrder_59 rfl rfl (by omega) ⟨_, rfl, ⟨by decide, by decide⟩, hσ44, hFσ44, ⟨by omega, by omega⟩, (show ((0 : Int) = 1 → ¬ (∃ i, 0 ≤ i ∧ i < σ 0 3 ∧ σ 1 i = zt_nb (σ 10) (zt_z0 (σ 10) (σ 0 14)) (zt_n0 (σ 10) (σ 0 14))) ∧ zt_oK (σ 10) (σ 0 14) (σ 0 2) (σ 0 1) (σ 0 0) ∧ zt_cR σ44 o (σ 10) (σ 0 14) (σ 0 2) ∧ zx_A σ44 o ∧ zx_B σ44 o ∧ 1 ≤ σ44 7 o) ∧ ((0 : Int) = 0 → ((∃ i, 0 ≤ i ∧ i < σ 0 3 ∧ σ 1 i = zt_nb (σ 10) (zt_z0 (σ 10) (σ 0 14)) (zt_n0 (σ 10) (σ 0 14))) → σ44 0 15 = (zt_z0 (σ 10) (σ 0 14))) ∧ (¬ (∃ i, 0 ≤ i ∧ i < σ 0 3 ∧ σ 1 i = zt_nb (σ 10) (zt_z0 (σ 10) (σ 0 14)) (zt_n0 (σ 10) (σ 0 14))) → ¬ zt_oK (σ 10) (σ 0 14) (σ 0 2) (σ 0 1) (σ 0 0) ∧ σ44 0 15 = zt_oF (σ 10) (σ 0 14) (σ 0 2) (σ 0 1) (σ 0 0))) from ⟨fun h => absurd h (by omega), fun _ => ⟨fun d => absurd d nd, fun _ => by have o := zt_o4 (t := σ 10) (n := σ 0 14) (b := σ 0 2) (k := σ 0 1) (w := σ 0 0) y1 y2 y3 (by omega); exact ⟨o.1, by rw [o.2]; omega⟩⟩⟩)⟩
        · show V 50 [some (ZR 0), some (ZI o), none, none] [] 41 σ44
          have y4 : zt_tkR (σ 10) (σ 0 14) 58 (zt_oE (σ 10) (σ 0 14) (σ 0 2)) ≠ 0 := by omega
          have a4 : σ44 0 15 = (zt_oG (σ 10) (σ 0 14) (σ 0 2)) := by unfold zt_oG; omega
          refine zr_aload_n (pc := 50) hV dX12_readOrder_50 rfl rfl ?_
          refine zr_iload_n (pc := 51) hV dX12_readOrder_51 rfl rfl ?_
          refine zr_callVi (pc := 52) hV [ZI o] (st := []) (c_X12_readGuard2 (σ := σ44) hσ44 o (by omega)) dX12_readOrder_52 mX12_254 rfl (by decide) (by decide) (Nat.le_of_ble_eq_true rfl) (Nat.le_refl _) (fun r52 σ52 hr52 pσ52 => ?_)
          obtain ⟨hσ52, hfσ52, pσ52, wσ52⟩ := pσ52
          have hFσ52 : ∀ a i : Int, (¬ (a = 0 ∧ i = 15) ∧ ¬ (a = 0 ∧ i = 16) ∧ ¬ (a = 0 ∧ i = 17) ∧ ¬ (a = 1 ∧ i = o) ∧ ¬ (a = 2 ∧ 12 * o ≤ i ∧ i < 12 * o + 12) ∧ ¬ (a = 3 ∧ i = o) ∧ ¬ (a = 4 ∧ i = o) ∧ ¬ (a = 5 ∧ i = o) ∧ ¬ (a = 6 ∧ 18 * o ≤ i ∧ i < 18 * o + 18) ∧ ¬ (a = 7 ∧ i = o)) → σ52 a i = σ a i := fun a i h => (hfσ52 a i ⟨h.1, (fun q => h.2.2.2.2.2.1 ⟨q.1, by omega⟩), (fun q => h.2.2.2.2.2.2.1 ⟨q.1, by omega⟩)⟩).trans (hFσ44 a i h)
          have t56 := zx_g14 hσ44
          have t57 : σ44 0 14 = σ35 0 14 := hfσ44 _ _ (by omega)
          have t58 : σ35 0 14 = σ27 0 14 := hfσ35 _ _ (by omega)
          have t59 : σ27 0 14 = σ14 0 14 := hfσ27 _ _ (by omega)
          have t60 : σ14 0 14 = σ11 0 14 := by rw [eσ14]; exact zq_up_ne (by omega)
          have t61 : σ11 0 14 = σ2 0 14 := hfσ11 _ _ (by omega)
          have t62 : σ2 0 14 = σ 0 14 := by rw [eσ2]; exact zq_up_ne (by omega)
          have t63 := zx_g15 hσ44
          have Tσ44 : σ44 10 = σ 10 := funext (fun i => hFσ44 10 i (by omega))
          have Nσ44 : σ44 0 14 = σ 0 14 := hFσ44 0 14 (by omega)
          rw [Tσ44, Nσ44] at pσ52
          rw [Tσ44, Nσ44] at wσ52
          have t64 := zx_g15 hσ52
          have H44 : zt_Hr σ44 o = (zt_oH (σ 10) (σ 0 14) (σ 0 2)) := zt_Hr_o (by omega) (hFσ44 0 2 (by omega)) (fun i h0 h1 => by rw [hfσ44 2 _ (by omega)]; exact u3.2.1 i h0 h1)
          rw [H44, a4] at pσ52 wσ52
          refine zr_if_ne (pc := 55) hV 60 dX12_readOrder_55 (by decide) (by omega) (fun c65 => ?_) (fun c65 => ?_)
          · show V 60 [some (ZR 0), some (ZI o), none, none] [] 41 σ52
            have y5 : zt_gR (zt_oH (σ 10) (σ 0 14) (σ 0 2)) (σ 10) (σ 0 14) (zt_oG (σ 10) (σ 0 14) (σ 0 2)) ≠ 0 := by omega
            have a5 : σ52 0 15 = (zt_oS (σ 10) (σ 0 14) (σ 0 2)) := by unfold zt_oS; omega
            have vg5 := wσ52 (by omega)
            refine zr_aload_n (pc := 60) hV dX12_readOrder_60 rfl rfl ?_
            refine zr_getR (pc := 61) hV 8 5 dX12_readOrder_61 fX12_32 rfl rfl rfl (by decide) (zx_g8 hσ52) (by omega) ?_
            refine zr_iload_n (pc := 64) hV dX12_readOrder_64 rfl rfl ?_
            refine zr_iconst (pc := 65) hV 0 dX12_readOrder_65 rfl ?_
            refine zr_iast (pc := 66) hV dX12_readOrder_66 rfl (by decide) rfl (by omega) (fun σ66 eσ66 => ?_)
            have hσ66 : zx_T σ66 := zx_ua5 eσ66 hσ52 (by omega)
            have hFσ66 : ∀ a i : Int, (¬ (a = 0 ∧ i = 15) ∧ ¬ (a = 0 ∧ i = 16) ∧ ¬ (a = 0 ∧ i = 17) ∧ ¬ (a = 1 ∧ i = o) ∧ ¬ (a = 2 ∧ 12 * o ≤ i ∧ i < 12 * o + 12) ∧ ¬ (a = 3 ∧ i = o) ∧ ¬ (a = 4 ∧ i = o) ∧ ¬ (a = 5 ∧ i = o) ∧ ¬ (a = 6 ∧ 18 * o ≤ i ∧ i < 18 * o + 18) ∧ ¬ (a = 7 ∧ i = o)) → σ66 a i = σ a i := fun a i h => by rw [eσ66, zq_up_ne (fun q => h.2.2.2.2.2.2.2.1 ⟨q.1, by omega⟩)]; exact hFσ52 a i h
            have rk66 : zt_rk σ66 o (σ 10) (σ 0 14) (σ 0 2) := ⟨by rw [eσ66, zq_up_ne (by omega), hfσ52 1 _ (by omega), hfσ44 1 _ (by omega), hfσ35 1 _ (by omega), hfσ27 1 _ (by omega), eσ14, zq_up_same]; exact (wσ11.1 (by omega)).1, fun i h0 h1 => by rw [eσ66, zq_up_ne (by omega), hfσ52 2 _ (by omega), hfσ44 2 _ (by omega)]; exact u3.2.1 i h0 h1, by rw [eσ66, zq_up_ne (by omega)]; exact vg5.1, by rw [eσ66, zq_up_ne (by omega)]; exact vg5.2, hFσ66 0 2 (by omega), zx_B_fr (fun i => by rw [eσ66, zq_up_ne (by omega), hfσ52 2 _ (by omega), hfσ44 2 _ (by omega)]) (by rw [eσ66, zq_up_ne (by omega), hfσ52 0 _ (by omega), hfσ44 0 _ (by omega)]) u3.2.2.2.2⟩
            have ri66 : zt_ri σ66 o 1 (σ 10) (σ 0 14) (σ 0 2) := zt_ri_0 (by rw [eσ66, zq_up_same]) (by rw [eσ66, zq_up_ne (by omega)]; exact a5)
            have a66 : σ66 5 o = 0 := by rw [eσ66, zq_up_same]
            refine zr_iconst (pc := 67) hV 1 dX12_readOrder_67 rfl ?_
            refine zr_istore_n (pc := 68) hV [some (ZR 0), some (ZI o), some (ZI 1), none] dX12_readOrder_68 rfl (by decide) rfl rfl ?_
            have L69 : ∀ (fuel : Nat) (x2_69 : Int) (σ_69 : zq_S), (0 ≤ x2_69 ∧ x2_69 ≤ 1) → (zx_T σ_69) → (∀ a i : Int, (¬ (a = 0 ∧ i = 15) ∧ ¬ (a = 0 ∧ i = 16) ∧ ¬ (a = 0 ∧ i = 17) ∧ ¬ (a = 1 ∧ i = o) ∧ ¬ (a = 2 ∧ 12 * o ≤ i ∧ i < 12 * o + 12) ∧ ¬ (a = 3 ∧ i = o) ∧ ¬ (a = 4 ∧ i = o) ∧ ¬ (a = 5 ∧ i = o) ∧ ¬ (a = 6 ∧ 18 * o ≤ i ∧ i < 18 * o + 18) ∧ ¬ (a = 7 ∧ i = o)) → σ_69 a i = σ a i) → (σ_69 5 o ≤ 3) → (x2_69 = 1 → σ_69 5 o ≤ 2) → (zq_hid (zt_rk σ_69 o (σ 10) (σ 0 14) (σ 0 2))) → (zq_hid (zt_ri σ_69 o x2_69 (σ 10) (σ 0 14) (σ 0 2))) → 3 - σ_69 5 o < (fuel : Int) → V 69 [some (ZR 0), some (ZI o), some (ZI x2_69), none] [] 41 σ_69 := by
              intro fuel
              induction fuel with
              | zero =>
                intro x2_69 σ_69 hx2_69 hσ_69 hFσ_69 hi69_0 hi69_1 hi69_2 hi69_3 hm69
                exfalso; omega
              | succ fuel ih =>
                intro x2_69 σ_69 hx2_69 hσ_69 hFσ_69 hi69_0 hi69_1 hi69_2 hi69_3 hm69
                have ih69 := ih
                show V 69 [some (ZR 0), some (ZI o), some (ZI x2_69), none] [] 41 σ_69
                refine zr_iload_n (pc := 69) hV dX12_readOrder_69 rfl rfl ?_
                refine zr_if_eq (pc := 70) hV 127 dX12_readOrder_70 (by decide) (by omega) (fun c66 => ?_) (fun c66 => ?_)
                · show V 127 [some (ZR 0), some (ZI o), some (ZI x2_69), none] [] 41 σ_69
                  have ri0 : zt_ri σ_69 o 0 (σ 10) (σ 0 14) (σ 0 2) := by have q := hi69_3; rw [show x2_69 = 0 by omega] at q; exact q
                  have a6 : σ_69 0 15 = (zt_oA (σ 10) (σ 0 14) (σ 0 2)) := (ri0.2.2.2 rfl).1
                  have y6 : zt_sR (zt_oH (σ 10) (σ 0 14) (σ 0 2)) (σ 10) (σ 0 14) (zt_oS (σ 10) (σ 0 14) (σ 0 2)) ≠ 0 := (ri0.2.2.2 rfl).2.2
                  refine zr_aload_n (pc := 127) hV dX12_readOrder_127 rfl rfl ?_
                  refine zr_bipush (pc := 128) hV 58 dX12_readOrder_128 (by decide) ?_
                  refine zr_callVi (pc := 130) hV [ZI 58] (st := []) (c_X12_takes2 (σ := σ_69) hσ_69 58 (by omega)) dX12_readOrder_130 mX12_234 rfl (by decide) (by decide) (Nat.le_of_ble_eq_true rfl) (Nat.le_refl _) (fun r130 σ130 hr130 pσ130 => ?_)
                  obtain ⟨hσ130, hfσ130, pσ130⟩ := pσ130
                  have hFσ130 : ∀ a i : Int, (¬ (a = 0 ∧ i = 15) ∧ ¬ (a = 0 ∧ i = 16) ∧ ¬ (a = 0 ∧ i = 17) ∧ ¬ (a = 1 ∧ i = o) ∧ ¬ (a = 2 ∧ 12 * o ≤ i ∧ i < 12 * o + 12) ∧ ¬ (a = 3 ∧ i = o) ∧ ¬ (a = 4 ∧ i = o) ∧ ¬ (a = 5 ∧ i = o) ∧ ¬ (a = 6 ∧ 18 * o ≤ i ∧ i < 18 * o + 18) ∧ ¬ (a = 7 ∧ i = o)) → σ130 a i = σ a i := fun a i h => (hfσ130 a i h.1).trans (hFσ_69 a i h)
                  have t67 := zx_g14 hσ_69
                  have t68 : σ_69 0 14 = σ 0 14 := hFσ_69 _ _ (by omega)
                  have t69 := zx_g15 hσ_69
                  have Tσ_69 : σ_69 10 = σ 10 := funext (fun i => hFσ_69 10 i (by omega))
                  have Nσ_69 : σ_69 0 14 = σ 0 14 := hFσ_69 0 14 (by omega)
                  rw [Tσ_69, Nσ_69] at pσ130
                  have t70 := zx_g15 hσ130
                  rw [a6] at pσ130
                  refine zr_if_ne (pc := 133) hV 138 dX12_readOrder_133 (by decide) (by omega) (fun c71 => ?_) (fun c71 => ?_)
                  · show V 138 [some (ZR 0), some (ZI o), some (ZI x2_69), none] [] 41 σ130
                    have y7 : zt_tkR (σ 10) (σ 0 14) 58 (zt_oA (σ 10) (σ 0 14) (σ 0 2)) ≠ 0 := by omega
                    have a7 : σ130 0 15 = (zt_oT (σ 10) (σ 0 14) (σ 0 2)) := by unfold zt_oT; omega
                    refine zr_aload_n (pc := 138) hV dX12_readOrder_138 rfl rfl ?_
                    refine zr_callVi (pc := 139) hV [] (st := []) (c_X12_next2 (σ := σ130) hσ130 ) dX12_readOrder_139 mX12_203 rfl (by decide) (by decide) (Nat.le_of_ble_eq_true rfl) (Nat.le_refl _) (fun r139 σ139 hr139 pσ139 => ?_)
                    obtain ⟨hσ139, hfσ139, pσ139⟩ := pσ139
                    have hFσ139 : ∀ a i : Int, (¬ (a = 0 ∧ i = 15) ∧ ¬ (a = 0 ∧ i = 16) ∧ ¬ (a = 0 ∧ i = 17) ∧ ¬ (a = 1 ∧ i = o) ∧ ¬ (a = 2 ∧ 12 * o ≤ i ∧ i < 12 * o + 12) ∧ ¬ (a = 3 ∧ i = o) ∧ ¬ (a = 4 ∧ i = o) ∧ ¬ (a = 5 ∧ i = o) ∧ ¬ (a = 6 ∧ 18 * o ≤ i ∧ i < 18 * o + 18) ∧ ¬ (a = 7 ∧ i = o)) → σ139 a i = σ a i := fun a i h => (hfσ139 a i h.1).trans (hFσ130 a i h)
                    have t72 := zx_g14 hσ130
                    have t73 : σ130 0 14 = σ_69 0 14 := hfσ130 _ _ (by omega)
                    have t74 : σ_69 0 14 = σ 0 14 := hFσ_69 _ _ (by omega)
                    have t75 := zx_g15 hσ130
                    have Tσ130 : σ130 10 = σ 10 := funext (fun i => hFσ130 10 i (by omega))
                    have Nσ130 : σ130 0 14 = σ 0 14 := hFσ130 0 14 (by omega)
                    rw [Tσ130, Nσ130] at pσ139
                    have t76 := zx_g15 hσ139
                    rw [a7] at pσ139
                    refine zr_istore_n (pc := 142) hV [some (ZR 0), some (ZI o), some (ZI x2_69), some (ZI r139)] dX12_readOrder_142 rfl (by decide) rfl rfl ?_
                    refine zr_iload_n (pc := 143) hV dX12_readOrder_143 rfl rfl ?_
                    refine zr_i2l (pc := 144) hV dX12_readOrder_144 (by omega) ?_
                    refine zr_ldc2 (pc := 145) (v := 49) hV 49 dX12_readOrder_145 kX12_260 (by decide) ?_
                    refine zr_ldc2 (pc := 148) (v := 57) hV 57 dX12_readOrder_148 kX12_209 (by decide) ?_
                    refine zr_callSp (pc := 151) hV [ZL r139, ZL 49, ZL 57] (st := []) (c_X12_in (σ := σ139) r139 49 57 (by omega) (by omega) (by omega)) dX12_readOrder_151 mX12_170 (by decide) (Nat.le_of_ble_eq_true rfl) (Nat.le_refl _) (fun r151 hr151 pr151 => ?_)
                    refine zr_if_ne (pc := 154) hV 159 dX12_readOrder_154 (by decide) (by omega) (fun c77 => ?_) (fun c77 => ?_)
                    · show V 159 [some (ZR 0), some (ZI o), some (ZI x2_69), some (ZI r139)] [] 41 σ139
                      have y8 : 49 ≤ zt_nx (σ 10) (σ 0 14) (zt_oT (σ 10) (σ 0 14) (σ 0 2)) ∧ zt_nx (σ 10) (σ 0 14) (zt_oT (σ 10) (σ 0 14) (σ 0 2)) ≤ 57 := by omega
                      have zi := zt_nx_in (t := σ 10) (n := σ 0 14) (a := (zt_oT (σ 10) (σ 0 14) (σ 0 2))) (by omega)
                      refine zr_aload_n (pc := 159) hV dX12_readOrder_159 rfl rfl ?_
                      refine zr_getR (pc := 160) hV 10 7 dX12_readOrder_160 fX12_38 rfl rfl rfl (by decide) (zx_g10 hσ139) (by omega) ?_
                      refine zr_iload_n (pc := 163) hV dX12_readOrder_163 rfl rfl ?_
                      refine zr_iload_n (pc := 164) hV dX12_readOrder_164 rfl rfl ?_
                      refine zr_bipush (pc := 165) hV 48 dX12_readOrder_165 (by decide) ?_
                      refine zr_isub (pc := 167) hV dX12_readOrder_167 ?_
                      refine zr_iast (pc := 168) hV dX12_readOrder_168 rfl (by decide) rfl (by omega) (fun σ168 eσ168 => ?_)
                      have hσ168 : zx_T σ168 := zx_ua7 eσ168 hσ139 (by omega)
                      have hFσ168 : ∀ a i : Int, (¬ (a = 0 ∧ i = 15) ∧ ¬ (a = 0 ∧ i = 16) ∧ ¬ (a = 0 ∧ i = 17) ∧ ¬ (a = 1 ∧ i = o) ∧ ¬ (a = 2 ∧ 12 * o ≤ i ∧ i < 12 * o + 12) ∧ ¬ (a = 3 ∧ i = o) ∧ ¬ (a = 4 ∧ i = o) ∧ ¬ (a = 5 ∧ i = o) ∧ ¬ (a = 6 ∧ 18 * o ≤ i ∧ i < 18 * o + 18) ∧ ¬ (a = 7 ∧ i = o)) → σ168 a i = σ a i := fun a i h => by rw [eσ168, zq_up_ne (fun q => h.2.2.2.2.2.2.2.2.2 ⟨q.1, by omega⟩)]; exact hFσ139 a i h
                      refine zr_aload_n (pc := 169) hV dX12_readOrder_169 rfl rfl ?_
                      refine zr_dup (pc := 170) hV dX12_readOrder_170 (fun _ => rfl) ?_
                      refine zr_getI (pc := 171) hV 15 dX12_readOrder_171 fX12_200 rfl rfl rfl (by decide) ?_
                      have t78 := zx_g15 hσ168
                      have t79 : σ168 0 15 = σ139 0 15 := by rw [eσ168]; exact zq_up_ne (by omega)
                      refine zr_iconst (pc := 174) hV 1 dX12_readOrder_174 rfl ?_
                      refine zr_iadd (pc := 175) hV dX12_readOrder_175 ?_
                      refine zr_putI (pc := 176) hV 15 dX12_readOrder_176 fX12_200 rfl rfl rfl rfl (by decide) (fun σ176 eσ176 => ?_)
                      have hσ176 : zx_T σ176 := zx_u15 eσ176 hσ168 (by omega)
                      have hFσ176 : ∀ a i : Int, (¬ (a = 0 ∧ i = 15) ∧ ¬ (a = 0 ∧ i = 16) ∧ ¬ (a = 0 ∧ i = 17) ∧ ¬ (a = 1 ∧ i = o) ∧ ¬ (a = 2 ∧ 12 * o ≤ i ∧ i < 12 * o + 12) ∧ ¬ (a = 3 ∧ i = o) ∧ ¬ (a = 4 ∧ i = o) ∧ ¬ (a = 5 ∧ i = o) ∧ ¬ (a = 6 ∧ 18 * o ≤ i ∧ i < 18 * o + 18) ∧ ¬ (a = 7 ∧ i = o)) → σ176 a i = σ a i := fun a i h => by rw [eσ176, zq_up_ne h.1]; exact hFσ168 a i h
                      refine zr_aload_n (pc := 179) hV dX12_readOrder_179 rfl rfl ?_
                      refine zr_callVi (pc := 180) hV [] (st := []) (c_X12_next2 (σ := σ176) hσ176 ) dX12_readOrder_180 mX12_203 rfl (by decide) (by decide) (Nat.le_of_ble_eq_true rfl) (Nat.le_refl _) (fun r180 σ180 hr180 pσ180 => ?_)
                      obtain ⟨hσ180, hfσ180, pσ180⟩ := pσ180
                      have hFσ180 : ∀ a i : Int, (¬ (a = 0 ∧ i = 15) ∧ ¬ (a = 0 ∧ i = 16) ∧ ¬ (a = 0 ∧ i = 17) ∧ ¬ (a = 1 ∧ i = o) ∧ ¬ (a = 2 ∧ 12 * o ≤ i ∧ i < 12 * o + 12) ∧ ¬ (a = 3 ∧ i = o) ∧ ¬ (a = 4 ∧ i = o) ∧ ¬ (a = 5 ∧ i = o) ∧ ¬ (a = 6 ∧ 18 * o ≤ i ∧ i < 18 * o + 18) ∧ ¬ (a = 7 ∧ i = o)) → σ180 a i = σ a i := fun a i h => (hfσ180 a i h.1).trans (hFσ176 a i h)
                      have t80 := zx_g14 hσ176
                      have t81 : σ176 0 14 = σ168 0 14 := by rw [eσ176]; exact zq_up_ne (by omega)
                      have t82 : σ168 0 14 = σ139 0 14 := by rw [eσ168]; exact zq_up_ne (by omega)
                      have t83 : σ139 0 14 = σ130 0 14 := hfσ139 _ _ (by omega)
                      have t84 : σ130 0 14 = σ_69 0 14 := hfσ130 _ _ (by omega)
                      have t85 : σ_69 0 14 = σ 0 14 := hFσ_69 _ _ (by omega)
                      have t86 := zx_g15 hσ176
                      have t87 : σ176 0 15 = (σ168 0 15) + 1 := by rw [eσ176]; exact zq_up_same _ _ _ _
                      have Tσ176 : σ176 10 = σ 10 := funext (fun i => hFσ176 10 i (by omega))
                      have Nσ176 : σ176 0 14 = σ 0 14 := hFσ176 0 14 (by omega)
                      rw [Tσ176, Nσ176] at pσ180
                      have t88 := zx_g15 hσ180
                      rw [show σ176 0 15 = zt_sk (σ 10) (σ 0 14) (zt_oT (σ 10) (σ 0 14) (σ 0 2)) + 1 by omega] at pσ180
                      have zm1 : zt_nx (σ 10) (σ 0 14) (zt_sk (σ 10) (σ 0 14) (zt_oT (σ 10) (σ 0 14) (σ 0 2)) + 1) < 0 → zt_nx (σ 10) (σ 0 14) (zt_sk (σ 10) (σ 0 14) (zt_oT (σ 10) (σ 0 14) (σ 0 2)) + 1) = -1 := fun h => zt_nx_m1 q1 (by have := zx_g15 hσ139; omega) h
                      refine zr_if_ge (pc := 183) hV 190 dX12_readOrder_183 (by decide) (by omega) (fun c89 => ?_) (fun c89 => ?_)
                      · show V 190 [some (ZR 0), some (ZI o), some (ZI x2_69), some (ZI r139)] [] 41 σ180
                        refine zr_iconst (pc := 190) hV 0 dX12_readOrder_190 rfl ?_
                        show V 191 [some (ZR 0), some (ZI o), some (ZI x2_69), some (ZI r139)] [ZI 0] 41 σ180
                        have t90 := zx_g15 hσ180
                        exact zr_zret (pc := 191) hV dX12_readOrder_191 rfl rfl (by omega) ⟨_, rfl, ⟨by decide, by decide⟩, hσ180, hFσ180, ⟨by omega, by omega⟩, (show ((0 : Int) = 1 → ¬ (∃ i, 0 ≤ i ∧ i < σ 0 3 ∧ σ 1 i = zt_nb (σ 10) (zt_z0 (σ 10) (σ 0 14)) (zt_n0 (σ 10) (σ 0 14))) ∧ zt_oK (σ 10) (σ 0 14) (σ 0 2) (σ 0 1) (σ 0 0) ∧ zt_cR σ180 o (σ 10) (σ 0 14) (σ 0 2) ∧ zx_A σ180 o ∧ zx_B σ180 o ∧ 1 ≤ σ180 7 o) ∧ ((0 : Int) = 0 → ((∃ i, 0 ≤ i ∧ i < σ 0 3 ∧ σ 1 i = zt_nb (σ 10) (zt_z0 (σ 10) (σ 0 14)) (zt_n0 (σ 10) (σ 0 14))) → σ180 0 15 = (zt_z0 (σ 10) (σ 0 14))) ∧ (¬ (∃ i, 0 ≤ i ∧ i < σ 0 3 ∧ σ 1 i = zt_nb (σ 10) (zt_z0 (σ 10) (σ 0 14)) (zt_n0 (σ 10) (σ 0 14))) → ¬ zt_oK (σ 10) (σ 0 14) (σ 0 2) (σ 0 1) (σ 0 0) ∧ σ180 0 15 = zt_oF (σ 10) (σ 0 14) (σ 0 2) (σ 0 1) (σ 0 0))) from ⟨fun h => absurd h (by omega), fun _ => ⟨fun d => absurd d nd, fun _ => by have o := zt_o9 (t := σ 10) (n := σ 0 14) (b := σ 0 2) (k := σ 0 1) (w := σ 0 0) y1 y2 y3 y4 y5 y6 y7 y8 (by omega); exact ⟨o.1, by rw [o.2]; omega⟩⟩⟩)⟩
                      · show V 186 [some (ZR 0), some (ZI o), some (ZI x2_69), some (ZI r139)] [] 41 σ180
                        refine zr_iconst (pc := 186) hV 1 dX12_readOrder_186 rfl ?_
                        refine zr_goto (pc := 187) hV 191 dX12_readOrder_187 (by decide) ?_
                        show V 191 [some (ZR 0), some (ZI o), some (ZI x2_69), some (ZI r139)] [ZI 1] 41 σ180
                        have t91 := zx_g15 hσ180
                        exact zr_zret (pc := 191) hV dX12_readOrder_191 rfl rfl (by omega) ⟨_, rfl, ⟨by decide, by decide⟩, hσ180, hFσ180, ⟨by omega, by omega⟩, (show ((1 : Int) = 1 → ¬ (∃ i, 0 ≤ i ∧ i < σ 0 3 ∧ σ 1 i = zt_nb (σ 10) (zt_z0 (σ 10) (σ 0 14)) (zt_n0 (σ 10) (σ 0 14))) ∧ zt_oK (σ 10) (σ 0 14) (σ 0 2) (σ 0 1) (σ 0 0) ∧ zt_cR σ180 o (σ 10) (σ 0 14) (σ 0 2) ∧ zx_A σ180 o ∧ zx_B σ180 o ∧ 1 ≤ σ180 7 o) ∧ ((1 : Int) = 0 → ((∃ i, 0 ≤ i ∧ i < σ 0 3 ∧ σ 1 i = zt_nb (σ 10) (zt_z0 (σ 10) (σ 0 14)) (zt_n0 (σ 10) (σ 0 14))) → σ180 0 15 = (zt_z0 (σ 10) (σ 0 14))) ∧ (¬ (∃ i, 0 ≤ i ∧ i < σ 0 3 ∧ σ 1 i = zt_nb (σ 10) (zt_z0 (σ 10) (σ 0 14)) (zt_n0 (σ 10) (σ 0 14))) → ¬ zt_oK (σ 10) (σ 0 14) (σ 0 2) (σ 0 1) (σ 0 0) ∧ σ180 0 15 = zt_oF (σ 10) (σ 0 14) (σ 0 2) (σ 0 1) (σ 0 0))) from ⟨fun _ => by have c := zt_cR_of (τ := σ180) (zt_rk_fr (by rw [hfσ180 1 _ (by omega), eσ176, zq_up_ne (by omega), eσ168, zq_up_ne (by omega), hfσ139 1 _ (by omega), hfσ130 1 _ (by omega)]) (fun i => by rw [hfσ180 2 _ (by omega), eσ176, zq_up_ne (by omega), eσ168, zq_up_ne (by omega), hfσ139 2 _ (by omega), hfσ130 2 _ (by omega)]) (by rw [hfσ180 3 _ (by omega), eσ176, zq_up_ne (by omega), eσ168, zq_up_ne (by omega), hfσ139 3 _ (by omega), hfσ130 3 _ (by omega)]) (by rw [hfσ180 4 _ (by omega), eσ176, zq_up_ne (by omega), eσ168, zq_up_ne (by omega), hfσ139 4 _ (by omega), hfσ130 4 _ (by omega)]) (by rw [hfσ180 0 _ (by omega), eσ176, zq_up_ne (by omega), eσ168, zq_up_ne (by omega), hfσ139 0 _ (by omega), hfσ130 0 _ (by omega)]) hi69_2) ri0 (by rw [hfσ180 5 _ (by omega), eσ176, zq_up_ne (by omega), eσ168, zq_up_ne (by omega), hfσ139 5 _ (by omega), hfσ130 5 _ (by omega)]) (fun k => by rw [hfσ180 6 _ (by omega), eσ176, zq_up_ne (by omega), eσ168, zq_up_ne (by omega), hfσ139 6 _ (by omega), hfσ130 6 _ (by omega)]) (by rw [hfσ180 7 o (by omega), eσ176, zq_up_ne (by omega), eσ168, zq_up_same]; omega); exact ⟨nd, ⟨y1, y2, y3, y4, y5, y6, y7, y8, by omega⟩, c.1, c.2.1, c.2.2, by rw [hfσ180 7 o (by omega), eσ176, zq_up_ne (by omega), eσ168, zq_up_same]; omega⟩, fun h => absurd h (by omega)⟩)⟩
                    · show V 157 [some (ZR 0), some (ZI o), some (ZI x2_69), some (ZI r139)] [] 41 σ139
                      refine zr_iconst (pc := 157) hV 0 dX12_readOrder_157 rfl ?_
                      have t92 := zx_g15 hσ139
                      exact zr_zret (pc := 158) hV dX12_readOrder_158 rfl rfl (by omega) ⟨_, rfl, ⟨by decide, by decide⟩, hσ139, hFσ139, ⟨by omega, by omega⟩, (show ((0 : Int) = 1 → ¬ (∃ i, 0 ≤ i ∧ i < σ 0 3 ∧ σ 1 i = zt_nb (σ 10) (zt_z0 (σ 10) (σ 0 14)) (zt_n0 (σ 10) (σ 0 14))) ∧ zt_oK (σ 10) (σ 0 14) (σ 0 2) (σ 0 1) (σ 0 0) ∧ zt_cR σ139 o (σ 10) (σ 0 14) (σ 0 2) ∧ zx_A σ139 o ∧ zx_B σ139 o ∧ 1 ≤ σ139 7 o) ∧ ((0 : Int) = 0 → ((∃ i, 0 ≤ i ∧ i < σ 0 3 ∧ σ 1 i = zt_nb (σ 10) (zt_z0 (σ 10) (σ 0 14)) (zt_n0 (σ 10) (σ 0 14))) → σ139 0 15 = (zt_z0 (σ 10) (σ 0 14))) ∧ (¬ (∃ i, 0 ≤ i ∧ i < σ 0 3 ∧ σ 1 i = zt_nb (σ 10) (zt_z0 (σ 10) (σ 0 14)) (zt_n0 (σ 10) (σ 0 14))) → ¬ zt_oK (σ 10) (σ 0 14) (σ 0 2) (σ 0 1) (σ 0 0) ∧ σ139 0 15 = zt_oF (σ 10) (σ 0 14) (σ 0 2) (σ 0 1) (σ 0 0))) from ⟨fun h => absurd h (by omega), fun _ => ⟨fun d => absurd d nd, fun _ => by have o := zt_o8 (t := σ 10) (n := σ 0 14) (b := σ 0 2) (k := σ 0 1) (w := σ 0 0) y1 y2 y3 y4 y5 y6 y7 (by omega); exact ⟨o.1, by rw [o.2]; omega⟩⟩⟩)⟩
                  · show V 136 [some (ZR 0), some (ZI o), some (ZI x2_69), none] [] 41 σ130
                    refine zr_iconst (pc := 136) hV 0 dX12_readOrder_136 rfl ?_
                    have t93 := zx_g15 hσ130
                    exact zr_zret (pc := 137) hV dX12_readOrder_137 rfl rfl (by omega) ⟨_, rfl, ⟨by decide, by decide⟩, hσ130, hFσ130, ⟨by omega, by omega⟩, (show ((0 : Int) = 1 → ¬ (∃ i, 0 ≤ i ∧ i < σ 0 3 ∧ σ 1 i = zt_nb (σ 10) (zt_z0 (σ 10) (σ 0 14)) (zt_n0 (σ 10) (σ 0 14))) ∧ zt_oK (σ 10) (σ 0 14) (σ 0 2) (σ 0 1) (σ 0 0) ∧ zt_cR σ130 o (σ 10) (σ 0 14) (σ 0 2) ∧ zx_A σ130 o ∧ zx_B σ130 o ∧ 1 ≤ σ130 7 o) ∧ ((0 : Int) = 0 → ((∃ i, 0 ≤ i ∧ i < σ 0 3 ∧ σ 1 i = zt_nb (σ 10) (zt_z0 (σ 10) (σ 0 14)) (zt_n0 (σ 10) (σ 0 14))) → σ130 0 15 = (zt_z0 (σ 10) (σ 0 14))) ∧ (¬ (∃ i, 0 ≤ i ∧ i < σ 0 3 ∧ σ 1 i = zt_nb (σ 10) (zt_z0 (σ 10) (σ 0 14)) (zt_n0 (σ 10) (σ 0 14))) → ¬ zt_oK (σ 10) (σ 0 14) (σ 0 2) (σ 0 1) (σ 0 0) ∧ σ130 0 15 = zt_oF (σ 10) (σ 0 14) (σ 0 2) (σ 0 1) (σ 0 0))) from ⟨fun h => absurd h (by omega), fun _ => ⟨fun d => absurd d nd, fun _ => by have o := zt_o7 (t := σ 10) (n := σ 0 14) (b := σ 0 2) (k := σ 0 1) (w := σ 0 0) y1 y2 y3 y4 y5 y6 (by omega); exact ⟨o.1, by rw [o.2]; omega⟩⟩⟩)⟩
                · show V 73 [some (ZR 0), some (ZI o), some (ZI x2_69), none] [] 41 σ_69
                  refine zr_aload_n (pc := 73) hV dX12_readOrder_73 rfl rfl ?_
                  refine zr_iload_n (pc := 74) hV dX12_readOrder_74 rfl rfl ?_
                  refine zr_aload_n (pc := 75) hV dX12_readOrder_75 rfl rfl ?_
                  refine zr_getR (pc := 76) hV 8 5 dX12_readOrder_76 fX12_32 rfl rfl rfl (by decide) (zx_g8 hσ_69) (by omega) ?_
                  refine zr_iload_n (pc := 79) hV dX12_readOrder_79 rfl rfl ?_
                  refine zr_iald (pc := 80) hV dX12_readOrder_80 rfl (by decide) rfl (by omega) ?_
                  have t94 := zx_ga5 hσ_69 o
                  refine zr_callVi (pc := 81) hV [ZI o, ZI (σ_69 5 o)] (st := []) (c_X12_readAct2 (σ := σ_69) hσ_69 o (σ_69 5 o) (by omega) (by omega)) dX12_readOrder_81 mX12_257 rfl (by decide) (by decide) (Nat.le_of_ble_eq_true rfl) (Nat.le_refl _) (fun r81 σ81 hr81 pσ81 => ?_)
                  obtain ⟨hσ81, hfσ81, pσ81, wσ81⟩ := pσ81
                  have hFσ81 : ∀ a i : Int, (¬ (a = 0 ∧ i = 15) ∧ ¬ (a = 0 ∧ i = 16) ∧ ¬ (a = 0 ∧ i = 17) ∧ ¬ (a = 1 ∧ i = o) ∧ ¬ (a = 2 ∧ 12 * o ≤ i ∧ i < 12 * o + 12) ∧ ¬ (a = 3 ∧ i = o) ∧ ¬ (a = 4 ∧ i = o) ∧ ¬ (a = 5 ∧ i = o) ∧ ¬ (a = 6 ∧ 18 * o ≤ i ∧ i < 18 * o + 18) ∧ ¬ (a = 7 ∧ i = o)) → σ81 a i = σ a i := fun a i h => (hfσ81 a i ⟨h.1, h.2.2.1, (fun q => h.2.2.2.2.2.2.2.2.1 ⟨q.1, by omega⟩)⟩).trans (hFσ_69 a i h)
                  have t95 := zx_g14 hσ_69
                  have t96 : σ_69 0 14 = σ 0 14 := hFσ_69 _ _ (by omega)
                  have t97 := zx_g15 hσ_69
                  have Tσ_69 : σ_69 10 = σ 10 := funext (fun i => hFσ_69 10 i (by omega))
                  have Nσ_69 : σ_69 0 14 = σ 0 14 := hFσ_69 0 14 (by omega)
                  rw [Tσ_69, Nσ_69] at pσ81
                  rw [Tσ_69, Nσ_69] at wσ81
                  have t98 := zx_g15 hσ81
                  have H69 : zt_Hr σ_69 o = (zt_oH (σ 10) (σ 0 14) (σ 0 2)) := zt_rk_H (by omega) hi69_2
                  have ri1 : zt_ri σ_69 o 1 (σ 10) (σ 0 14) (σ 0 2) := by have q := hi69_3; rw [show x2_69 = 1 by omega] at q; exact q
                  have aj : σ_69 0 15 = (zt_oB (σ 10) (σ 0 14) (σ 0 2) (σ_69 5 o)) := (ri1.2.2.1 rfl).2.1
                  rw [H69, aj] at pσ81 wσ81
                  refine zr_if_ne (pc := 84) hV 89 dX12_readOrder_84 (by decide) (by omega) (fun c99 => ?_) (fun c99 => ?_)
                  · show V 89 [some (ZR 0), some (ZI o), some (ZI x2_69), none] [] 41 σ81
                    refine zr_aload_n (pc := 89) hV dX12_readOrder_89 rfl rfl ?_
                    refine zr_getR (pc := 90) hV 8 5 dX12_readOrder_90 fX12_32 rfl rfl rfl (by decide) (zx_g8 hσ81) (by omega) ?_
                    refine zr_iload_n (pc := 93) hV dX12_readOrder_93 rfl rfl ?_
                    refine zr_dup2 (pc := 94) hV dX12_readOrder_94 (fun _ => rfl) (fun _ => rfl) ?_
                    refine zr_iald (pc := 95) hV dX12_readOrder_95 rfl (by decide) rfl (by omega) ?_
                    have t100 := zx_ga5 hσ81 o
                    have t101 : σ81 5 o = σ_69 5 o := hfσ81 _ _ (by omega)
                    refine zr_iconst (pc := 96) hV 1 dX12_readOrder_96 rfl ?_
                    refine zr_iadd (pc := 97) hV dX12_readOrder_97 ?_
                    refine zr_iast (pc := 98) hV dX12_readOrder_98 rfl (by decide) rfl (by omega) (fun σ98 eσ98 => ?_)
                    have hσ98 : zx_T σ98 := zx_ua5 eσ98 hσ81 (by omega)
                    have hFσ98 : ∀ a i : Int, (¬ (a = 0 ∧ i = 15) ∧ ¬ (a = 0 ∧ i = 16) ∧ ¬ (a = 0 ∧ i = 17) ∧ ¬ (a = 1 ∧ i = o) ∧ ¬ (a = 2 ∧ 12 * o ≤ i ∧ i < 12 * o + 12) ∧ ¬ (a = 3 ∧ i = o) ∧ ¬ (a = 4 ∧ i = o) ∧ ¬ (a = 5 ∧ i = o) ∧ ¬ (a = 6 ∧ 18 * o ≤ i ∧ i < 18 * o + 18) ∧ ¬ (a = 7 ∧ i = o)) → σ98 a i = σ a i := fun a i h => by rw [eσ98, zq_up_ne (fun q => h.2.2.2.2.2.2.2.1 ⟨q.1, by omega⟩)]; exact hFσ81 a i h
                    have a98 : σ98 5 o = σ_69 5 o + 1 := by rw [eσ98, zq_up_same]; rw [hfσ81 5 o (by omega)]
                    have ha : zt_acR (zt_oH (σ 10) (σ 0 14) (σ 0 2)) (σ 10) (σ 0 14) (zt_oB (σ 10) (σ 0 14) (σ 0 2) (σ_69 5 o)) ≠ 0 := by omega
                    have hr98 : zt_rac σ98 (18 * o + 6 * σ_69 5 o) (zt_oH (σ 10) (σ 0 14) (σ 0 2)) (σ 10) (σ 0 14) (zt_oB (σ 10) (σ 0 14) (σ 0 2) (σ_69 5 o)) := zt_rac_fr (fun k _ _ => by rw [eσ98, zq_up_ne (by omega)]) (wσ81 (by omega))
                    have h98 : ∀ k, 18 * o ≤ k → k < 18 * o + 6 * σ_69 5 o → σ98 6 k = σ_69 6 k := fun k h0 h1 => by rw [eσ98, zq_up_ne (by omega)]; exact hfσ81 6 _ (by omega)
                    have p98 : σ98 0 15 = (zt_acA (zt_oH (σ 10) (σ 0 14) (σ 0 2)) (σ 10) (σ 0 14) (zt_oB (σ 10) (σ 0 14) (σ 0 2) (σ_69 5 o))) := by rw [eσ98, zq_up_ne (by omega)]; exact pσ81.2.2.2
                    have rk98 : zt_rk σ98 o (σ 10) (σ 0 14) (σ 0 2) := zt_rk_fr (by rw [eσ98, zq_up_ne (by omega)]; exact hfσ81 1 _ (by omega)) (fun i => by rw [eσ98, zq_up_ne (by omega)]; exact hfσ81 2 _ (by omega)) (by rw [eσ98, zq_up_ne (by omega)]; exact hfσ81 3 _ (by omega)) (by rw [eσ98, zq_up_ne (by omega)]; exact hfσ81 4 _ (by omega)) (by rw [eσ98, zq_up_ne (by omega)]; exact hfσ81 0 _ (by omega)) hi69_2
                    refine zr_aload_n (pc := 99) hV dX12_readOrder_99 rfl rfl ?_
                    refine zr_getR (pc := 100) hV 8 5 dX12_readOrder_100 fX12_32 rfl rfl rfl (by decide) (zx_g8 hσ98) (by omega) ?_
                    refine zr_iload_n (pc := 103) hV dX12_readOrder_103 rfl rfl ?_
                    refine zr_iald (pc := 104) hV dX12_readOrder_104 rfl (by decide) rfl (by omega) ?_
                    have t102 := zx_ga5 hσ98 o
                    have t103 : σ98 5 o = (σ81 5 o) + 1 := by rw [eσ98]; exact zq_up_same _ _ _ _
                    refine zr_iconst (pc := 105) hV 3 dX12_readOrder_105 rfl ?_
                    refine zr_icmp_ge (pc := 106) hV 122 dX12_readOrder_106 (by decide) (by omega) ⟨by decide, by decide⟩ (fun c104 => ?_) (fun c104 => ?_)
                    · show V 122 [some (ZR 0), some (ZI o), some (ZI x2_69), none] [] 41 σ98
                      refine zr_iconst (pc := 122) hV 0 dX12_readOrder_122 rfl ?_
                      show V 123 [some (ZR 0), some (ZI o), some (ZI x2_69), none] [ZI 0] 41 σ98
                      refine zr_istore_n (pc := 123) hV [some (ZR 0), some (ZI o), some (ZI 0), none] dX12_readOrder_123 rfl (by decide) rfl rfl ?_
                      refine zr_goto (pc := 124) hV 69 dX12_readOrder_124 (by decide) ?_
                      exact ih69 0 σ98 (by omega) hσ98 hFσ98 (by omega) (by omega) rk98 (zt_ri_c ri1 a98 h98 ha hr98 (by omega) p98) (by omega)
                    · show V 109 [some (ZR 0), some (ZI o), some (ZI x2_69), none] [] 41 σ98
                      refine zr_aload_n (pc := 109) hV dX12_readOrder_109 rfl rfl ?_
                      refine zr_bipush (pc := 110) hV 44 dX12_readOrder_110 (by decide) ?_
                      refine zr_callVi (pc := 112) hV [ZI 44] (st := []) (c_X12_takes2 (σ := σ98) hσ98 44 (by omega)) dX12_readOrder_112 mX12_234 rfl (by decide) (by decide) (Nat.le_of_ble_eq_true rfl) (Nat.le_refl _) (fun r112 σ112 hr112 pσ112 => ?_)
                      obtain ⟨hσ112, hfσ112, pσ112⟩ := pσ112
                      have hFσ112 : ∀ a i : Int, (¬ (a = 0 ∧ i = 15) ∧ ¬ (a = 0 ∧ i = 16) ∧ ¬ (a = 0 ∧ i = 17) ∧ ¬ (a = 1 ∧ i = o) ∧ ¬ (a = 2 ∧ 12 * o ≤ i ∧ i < 12 * o + 12) ∧ ¬ (a = 3 ∧ i = o) ∧ ¬ (a = 4 ∧ i = o) ∧ ¬ (a = 5 ∧ i = o) ∧ ¬ (a = 6 ∧ 18 * o ≤ i ∧ i < 18 * o + 18) ∧ ¬ (a = 7 ∧ i = o)) → σ112 a i = σ a i := fun a i h => (hfσ112 a i h.1).trans (hFσ98 a i h)
                      have t105 := zx_g14 hσ98
                      have t106 : σ98 0 14 = σ81 0 14 := by rw [eσ98]; exact zq_up_ne (by omega)
                      have t107 : σ81 0 14 = σ_69 0 14 := hfσ81 _ _ (by omega)
                      have t108 : σ_69 0 14 = σ 0 14 := hFσ_69 _ _ (by omega)
                      have t109 := zx_g15 hσ98
                      have t110 : σ98 0 15 = σ81 0 15 := by rw [eσ98]; exact zq_up_ne (by omega)
                      have Tσ98 : σ98 10 = σ 10 := funext (fun i => hFσ98 10 i (by omega))
                      have Nσ98 : σ98 0 14 = σ 0 14 := hFσ98 0 14 (by omega)
                      rw [Tσ98, Nσ98] at pσ112
                      have t111 := zx_g15 hσ112
                      rw [p98] at pσ112
                      have a112 : σ112 5 o = σ_69 5 o + 1 := by rw [hfσ112 5 o (by omega)]; exact a98
                      have hr112 : zt_rac σ112 (18 * o + 6 * σ_69 5 o) (zt_oH (σ 10) (σ 0 14) (σ 0 2)) (σ 10) (σ 0 14) (zt_oB (σ 10) (σ 0 14) (σ 0 2) (σ_69 5 o)) := zt_rac_fr (fun k _ _ => hfσ112 6 k (by omega)) hr98
                      have h112 : ∀ k, 18 * o ≤ k → k < 18 * o + 6 * σ_69 5 o → σ112 6 k = σ_69 6 k := fun k h0 h1 => by rw [hfσ112 6 _ (by omega)]; exact h98 k h0 h1
                      have rk112 : zt_rk σ112 o (σ 10) (σ 0 14) (σ 0 2) := zt_rk_fr (hfσ112 1 _ (by omega)) (fun i => hfσ112 2 _ (by omega)) (hfσ112 3 _ (by omega)) (hfσ112 4 _ (by omega)) (hfσ112 0 _ (by omega)) rk98
                      refine zr_if_eq (pc := 115) hV 122 dX12_readOrder_115 (by decide) (by omega) (fun c112 => ?_) (fun c112 => ?_)
                      · show V 122 [some (ZR 0), some (ZI o), some (ZI x2_69), none] [] 41 σ112
                        have tn := zt_tk_n (t := σ 10) (n := σ 0 14) (c := 44) (a := (zt_acA (zt_oH (σ 10) (σ 0 14) (σ 0 2)) (σ 10) (σ 0 14) (zt_oB (σ 10) (σ 0 14) (σ 0 2) (σ_69 5 o)))) (by omega)
                        refine zr_iconst (pc := 122) hV 0 dX12_readOrder_122 rfl ?_
                        show V 123 [some (ZR 0), some (ZI o), some (ZI x2_69), none] [ZI 0] 41 σ112
                        refine zr_istore_n (pc := 123) hV [some (ZR 0), some (ZI o), some (ZI 0), none] dX12_readOrder_123 rfl (by decide) rfl rfl ?_
                        refine zr_goto (pc := 124) hV 69 dX12_readOrder_124 (by decide) ?_
                        exact ih69 0 σ112 (by omega) hσ112 hFσ112 (by omega) (by omega) rk112 (zt_ri_b ri1 a112 h112 ha hr112 (by omega) tn.1 (by omega)) (by omega)
                      · show V 118 [some (ZR 0), some (ZI o), some (ZI x2_69), none] [] 41 σ112
                        have ty := zt_tk_y (t := σ 10) (n := σ 0 14) (c := 44) (a := (zt_acA (zt_oH (σ 10) (σ 0 14) (σ 0 2)) (σ 10) (σ 0 14) (zt_oB (σ 10) (σ 0 14) (σ 0 2) (σ_69 5 o)))) (by omega)
                        refine zr_iconst (pc := 118) hV 1 dX12_readOrder_118 rfl ?_
                        refine zr_goto (pc := 119) hV 123 dX12_readOrder_119 (by decide) ?_
                        show V 123 [some (ZR 0), some (ZI o), some (ZI x2_69), none] [ZI 1] 41 σ112
                        refine zr_istore_n (pc := 123) hV [some (ZR 0), some (ZI o), some (ZI 1), none] dX12_readOrder_123 rfl (by decide) rfl rfl ?_
                        refine zr_goto (pc := 124) hV 69 dX12_readOrder_124 (by decide) ?_
                        exact ih69 1 σ112 (by omega) hσ112 hFσ112 (by omega) (by omega) rk112 (zt_ri_a ri1 a112 h112 ha hr112 (by omega) ty.1 (by omega)) (by omega)
                  · show V 87 [some (ZR 0), some (ZI o), some (ZI x2_69), none] [] 41 σ81
                    refine zr_iconst (pc := 87) hV 0 dX12_readOrder_87 rfl ?_
                    have t113 := zx_g15 hσ81
                    exact zr_zret (pc := 88) hV dX12_readOrder_88 rfl rfl (by omega) ⟨_, rfl, ⟨by decide, by decide⟩, hσ81, hFσ81, ⟨by omega, by omega⟩, (show ((0 : Int) = 1 → ¬ (∃ i, 0 ≤ i ∧ i < σ 0 3 ∧ σ 1 i = zt_nb (σ 10) (zt_z0 (σ 10) (σ 0 14)) (zt_n0 (σ 10) (σ 0 14))) ∧ zt_oK (σ 10) (σ 0 14) (σ 0 2) (σ 0 1) (σ 0 0) ∧ zt_cR σ81 o (σ 10) (σ 0 14) (σ 0 2) ∧ zx_A σ81 o ∧ zx_B σ81 o ∧ 1 ≤ σ81 7 o) ∧ ((0 : Int) = 0 → ((∃ i, 0 ≤ i ∧ i < σ 0 3 ∧ σ 1 i = zt_nb (σ 10) (zt_z0 (σ 10) (σ 0 14)) (zt_n0 (σ 10) (σ 0 14))) → σ81 0 15 = (zt_z0 (σ 10) (σ 0 14))) ∧ (¬ (∃ i, 0 ≤ i ∧ i < σ 0 3 ∧ σ 1 i = zt_nb (σ 10) (zt_z0 (σ 10) (σ 0 14)) (zt_n0 (σ 10) (σ 0 14))) → ¬ zt_oK (σ 10) (σ 0 14) (σ 0 2) (σ 0 1) (σ 0 0) ∧ σ81 0 15 = zt_oF (σ 10) (σ 0 14) (σ 0 2) (σ 0 1) (σ 0 0))) from ⟨fun h => absurd h (by omega), fun _ => ⟨fun d => absurd d nd, fun _ => by have o := zt_o6 (t := σ 10) (n := σ 0 14) (b := σ 0 2) (k := σ 0 1) (w := σ 0 0) y1 y2 y3 y4 y5 (zt_ri_f ri1 (by omega)).1; exact ⟨o.1, by rw [o.2]; rw [(zt_ri_f ri1 (by omega)).2]; omega⟩⟩⟩)⟩
            exact L69 (3 - σ66 5 o + 1 : Int).toNat 1 σ66 (by omega) hσ66 hFσ66 (by omega) (by omega) rk66 ri66 (by omega)
          · show V 58 [some (ZR 0), some (ZI o), none, none] [] 41 σ52
            refine zr_iconst (pc := 58) hV 0 dX12_readOrder_58 rfl ?_
            have t114 := zx_g15 hσ52
            exact zr_zret (pc := 59) hV dX12_readOrder_59 rfl rfl (by omega) ⟨_, rfl, ⟨by decide, by decide⟩, hσ52, hFσ52, ⟨by omega, by omega⟩, (show ((0 : Int) = 1 → ¬ (∃ i, 0 ≤ i ∧ i < σ 0 3 ∧ σ 1 i = zt_nb (σ 10) (zt_z0 (σ 10) (σ 0 14)) (zt_n0 (σ 10) (σ 0 14))) ∧ zt_oK (σ 10) (σ 0 14) (σ 0 2) (σ 0 1) (σ 0 0) ∧ zt_cR σ52 o (σ 10) (σ 0 14) (σ 0 2) ∧ zx_A σ52 o ∧ zx_B σ52 o ∧ 1 ≤ σ52 7 o) ∧ ((0 : Int) = 0 → ((∃ i, 0 ≤ i ∧ i < σ 0 3 ∧ σ 1 i = zt_nb (σ 10) (zt_z0 (σ 10) (σ 0 14)) (zt_n0 (σ 10) (σ 0 14))) → σ52 0 15 = (zt_z0 (σ 10) (σ 0 14))) ∧ (¬ (∃ i, 0 ≤ i ∧ i < σ 0 3 ∧ σ 1 i = zt_nb (σ 10) (zt_z0 (σ 10) (σ 0 14)) (zt_n0 (σ 10) (σ 0 14))) → ¬ zt_oK (σ 10) (σ 0 14) (σ 0 2) (σ 0 1) (σ 0 0) ∧ σ52 0 15 = zt_oF (σ 10) (σ 0 14) (σ 0 2) (σ 0 1) (σ 0 0))) from ⟨fun h => absurd h (by omega), fun _ => ⟨fun d => absurd d nd, fun _ => by have o := zt_o5 (t := σ 10) (n := σ 0 14) (b := σ 0 2) (k := σ 0 1) (w := σ 0 0) y1 y2 y3 y4 (by omega); exact ⟨o.1, by rw [o.2]; omega⟩⟩⟩)⟩
