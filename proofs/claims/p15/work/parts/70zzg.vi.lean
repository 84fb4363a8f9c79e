set_option maxHeartbeats 800000 in
theorem c_X12_addOrder4 {σ : zq_S} (hσ : zx_T σ) (q0 : zx_A σ (σ 0 3)) (q1 : zx_B σ (σ 0 3)) (q2 : 1 ≤ σ 7 (σ 0 3)) (Mσ : zx_M σ) (Oσ : zx_O σ) (Tσ : zx_TK σ) (Wσ : zx_W σ) : zq_C zx_w yX12_addOrder cX12_addOrder 1 (some .int) 0 0 41 41 [ZR 0] σ (zq_pi (fun r τ => zx_T τ ∧ (∀ a i : Int, (¬ (a = 0 ∧ i = 3) ∧ ¬ (a = 0 ∧ i = 30) ∧ a ≠ 8 ∧ a ≠ 9) → τ a i = σ a i) ∧ ((σ 0 3 = 20 → r = -3 ∧ τ 0 3 = σ 0 3) ∧ (σ 0 3 ≠ 20 → r = σ 0 3 ∧ τ 0 3 = σ 0 3 + 1)) ∧ zq_hid ((∀ o, o ≠ σ 0 3 → τ 8 o = σ 8 o ∧ τ 9 o = σ 9 o) ∧ (τ 0 3 = σ 0 3 + 1 → τ 8 (σ 0 3) = -1 ∧ τ 9 (σ 0 3) = -1)) ∧ zx_M τ ∧ zx_O τ ∧ zx_TK τ ∧ zx_W τ)) := by
  refine zq_C_of (by decide) (Nat.le_refl _) (Nat.le_of_ble_eq_true rfl) [some (ZR 0)] rfl (fun V hV => ?_)
  show V 0 [some (ZR 0)] [] 41 σ
  refine zr_aload_n (pc := 0) hV dX12_addOrder_0 rfl rfl ?_
  refine zr_getI (pc := 1) hV 3 dX12_addOrder_1 fX12_150 rfl rfl rfl (by decide) ?_
  have t1 := zx_g3 hσ
  refine zr_bipush (pc := 4) hV 20 dX12_addOrder_4 (by decide) ?_
  refine zr_icmp_ne (pc := 6) hV 12 dX12_addOrder_6 (by decide) (by omega) ⟨by decide, by decide⟩ (fun c2 => ?_) (fun c2 => ?_)
  · show V 12 [some (ZR 0)] [] 41 σ
    refine zr_aload_n (pc := 12) hV dX12_addOrder_12 rfl rfl ?_
    refine zr_getR (pc := 13) hV 11 8 dX12_addOrder_13 fX12_41 rfl rfl rfl (by decide) (zx_g11 hσ) (by omega) ?_
    refine zr_aload_n (pc := 16) hV dX12_addOrder_16 rfl rfl ?_
    refine zr_getI (pc := 17) hV 3 dX12_addOrder_17 fX12_150 rfl rfl rfl (by decide) ?_
    have t3 := zx_g3 hσ
    refine zr_iconst (pc := 20) hV (-1) dX12_addOrder_20 rfl ?_
    refine zr_iast (pc := 21) hV dX12_addOrder_21 rfl (by decide) rfl (by omega) (fun σ21 eσ21 => ?_)
    have hσ21 : zx_T σ21 := zx_ua8 eσ21 hσ (by omega)
    have hFσ21 : ∀ a i : Int, (¬ (a = 0 ∧ i = 3) ∧ ¬ (a = 0 ∧ i = 30) ∧ a ≠ 8 ∧ a ≠ 9) → σ21 a i = σ a i := fun a i h => by rw [eσ21, zq_up_ne (fun q => h.2.2.1 q.1)]
    have Mσ21 : zx_M σ21 := zx_M_fr (fun i => by rw [eσ21]; exact zq_up_ne (by omega)) (by rw [eσ21]; exact zq_up_ne (by omega)) (by rw [eσ21]; exact zq_up_ne (by omega)) (by rw [eσ21]; exact zq_up_ne (by omega)) Mσ
    have Oσ21 : zx_O σ21 := zx_O_fr (fun i => by rw [eσ21]; exact zq_up_ne (by omega)) (fun i => by rw [eσ21]; exact zq_up_ne (by omega)) (fun i => by rw [eσ21]; exact zq_up_ne (by omega)) (by rw [eσ21]; exact zq_up_ne (by omega)) (by rw [eσ21]; exact zq_up_ne (by omega)) Oσ
    have Tσ21 : zx_TK σ21 := zx_TK_fr (fun i => by rw [eσ21]; exact zq_up_ne (by omega)) (by rw [eσ21]; exact zq_up_ne (by omega)) Tσ
    have Wσ21 : zx_W σ21 := zx_W_fr (fun i => by rw [eσ21]; exact zq_up_ne (by omega)) (by rw [eσ21]; exact zq_up_ne (by omega)) (by rw [eσ21]; exact zq_up_ne (by omega)) (by rw [eσ21]; exact zq_up_ne (by omega)) (fun i => by rw [eσ21]; exact zq_up_ne (by omega)) Wσ
    refine zr_aload_n (pc := 22) hV dX12_addOrder_22 rfl rfl ?_
    refine zr_getR (pc := 23) hV 12 9 dX12_addOrder_23 fX12_44 rfl rfl rfl (by decide) (zx_g12 hσ21) (by omega) ?_
    refine zr_aload_n (pc := 26) hV dX12_addOrder_26 rfl rfl ?_
    refine zr_getI (pc := 27) hV 3 dX12_addOrder_27 fX12_150 rfl rfl rfl (by decide) ?_
    have t4 := zx_g3 hσ21
    have t5 : σ21 0 3 = σ 0 3 := by rw [eσ21]; exact zq_up_ne (by omega)
    refine zr_iconst (pc := 30) hV (-1) dX12_addOrder_30 rfl ?_
    refine zr_iast (pc := 31) hV dX12_addOrder_31 rfl (by decide) rfl (by omega) (fun σ31 eσ31 => ?_)
    have hσ31 : zx_T σ31 := zx_ua9 eσ31 hσ21 (by omega)
    have hFσ31 : ∀ a i : Int, (¬ (a = 0 ∧ i = 3) ∧ ¬ (a = 0 ∧ i = 30) ∧ a ≠ 8 ∧ a ≠ 9) → σ31 a i = σ a i := fun a i h => by rw [eσ31, zq_up_ne (fun q => h.2.2.2 q.1)]; exact hFσ21 a i h
    have Mσ31 : zx_M σ31 := zx_M_fr (fun i => by rw [eσ31]; exact zq_up_ne (by omega)) (by rw [eσ31]; exact zq_up_ne (by omega)) (by rw [eσ31]; exact zq_up_ne (by omega)) (by rw [eσ31]; exact zq_up_ne (by omega)) Mσ21
    have Oσ31 : zx_O σ31 := zx_O_fr (fun i => by rw [eσ31]; exact zq_up_ne (by omega)) (fun i => by rw [eσ31]; exact zq_up_ne (by omega)) (fun i => by rw [eσ31]; exact zq_up_ne (by omega)) (by rw [eσ31]; exact zq_up_ne (by omega)) (by rw [eσ31]; exact zq_up_ne (by omega)) Oσ21
    have Tσ31 : zx_TK σ31 := zx_TK_fr (fun i => by rw [eσ31]; exact zq_up_ne (by omega)) (by rw [eσ31]; exact zq_up_ne (by omega)) Tσ21
    have Wσ31 : zx_W σ31 := zx_W_fr (fun i => by rw [eσ31]; exact zq_up_ne (by omega)) (by rw [eσ31]; exact zq_up_ne (by omega)) (by rw [eσ31]; exact zq_up_ne (by omega)) (by rw [eσ31]; exact zq_up_ne (by omega)) (fun i => by rw [eσ31]; exact zq_up_ne (by omega)) Wσ21
    have e3n : σ21 0 3 = σ 0 3 := by rw [eσ21]; exact zq_up_ne (by omega)
    refine zr_aload_n (pc := 32) hV dX12_addOrder_32 rfl rfl ?_
    refine zr_dup (pc := 33) hV dX12_addOrder_33 (fun _ => rfl) ?_
    refine zr_getI (pc := 34) hV 3 dX12_addOrder_34 fX12_150 rfl rfl rfl (by decide) ?_
    have t6 := zx_g3 hσ31
    have t7 : σ31 0 3 = σ21 0 3 := by rw [eσ31]; exact zq_up_ne (by omega)
    have t8 : σ21 0 3 = σ 0 3 := by rw [eσ21]; exact zq_up_ne (by omega)
    refine zr_iconst (pc := 37) hV 1 dX12_addOrder_37 rfl ?_
    refine zr_iadd (pc := 38) hV dX12_addOrder_38 ?_
    refine zr_putI (pc := 39) hV 3 dX12_addOrder_39 fX12_150 rfl rfl rfl rfl (by decide) (fun σ39 eσ39 => ?_)
    have hσ39 : zx_T σ39 := zx_u3 eσ39 hσ31 (by omega)
    have hFσ39 : ∀ a i : Int, (¬ (a = 0 ∧ i = 3) ∧ ¬ (a = 0 ∧ i = 30) ∧ a ≠ 8 ∧ a ≠ 9) → σ39 a i = σ a i := fun a i h => by rw [eσ39, zq_up_ne h.1]; exact hFσ31 a i h
    have Oσ39 : zx_O σ39 := zx_O_inc Oσ31 (by rw [show σ31 0 3 = σ 0 3 by omega]; exact zx_A_fr (fun i => hFσ31 5 i (by omega)) (fun i => hFσ31 6 i (by omega)) q0) (by rw [show σ31 0 3 = σ 0 3 by omega]; exact zx_B_fr (fun i => hFσ31 2 i (by omega)) (hFσ31 0 2 (by omega)) q1) eσ39 rfl
    have Tσ39 : zx_TK σ39 := zx_TK_inc Tσ31 (by rw [eσ39, zq_up_same]) (fun i => by rw [eσ39]; exact zq_up_ne (by omega)) (by rw [show σ31 0 3 = σ 0 3 by omega, hFσ31 7 _ (by omega)]; exact q2)
    refine zr_aload_n (pc := 42) hV dX12_addOrder_42 rfl rfl ?_
    refine zr_iconst (pc := 43) hV 0 dX12_addOrder_43 rfl ?_
    refine zr_putZ (pc := 44) hV 30 dX12_addOrder_44 fX12_153 rfl rfl rfl (by omega) rfl (by decide) (fun σ44 eσ44 => ?_)
    have hσ44 : zx_T σ44 := zx_u30 eσ44 hσ39 (by omega)
    have hFσ44 : ∀ a i : Int, (¬ (a = 0 ∧ i = 3) ∧ ¬ (a = 0 ∧ i = 30) ∧ a ≠ 8 ∧ a ≠ 9) → σ44 a i = σ a i := fun a i h => by rw [eσ44, zq_up_ne h.2.1]; exact hFσ39 a i h
    have Mσ44 : zx_M σ44 := zx_M_0 (by rw [eσ44, zq_up_same])
    have Oσ44 : zx_O σ44 := zx_O_fr (fun i => by rw [eσ44]; exact zq_up_ne (by omega)) (fun i => by rw [eσ44]; exact zq_up_ne (by omega)) (fun i => by rw [eσ44]; exact zq_up_ne (by omega)) (by rw [eσ44]; exact zq_up_ne (by omega)) (by rw [eσ44]; exact zq_up_ne (by omega)) Oσ39
    have Tσ44 : zx_TK σ44 := zx_TK_fr (fun i => by rw [eσ44]; exact zq_up_ne (by omega)) (by rw [eσ44]; exact zq_up_ne (by omega)) Tσ39
    have Wσ44 : zx_W σ44 := zx_W_0 (by rw [eσ44, zq_up_same])
    refine zr_aload_n (pc := 47) hV dX12_addOrder_47 rfl rfl ?_
    refine zr_getI (pc := 48) hV 3 dX12_addOrder_48 fX12_150 rfl rfl rfl (by decide) ?_
    have t9 := zx_g3 hσ44
    have t10 : σ44 0 3 = σ39 0 3 := by rw [eσ44]; exact zq_up_ne (by omega)
    have t11 : σ39 0 3 = (σ31 0 3) + 1 := by rw [eσ39]; exact zq_up_same _ _ _ _
    refine zr_iconst (pc := 51) hV 1 dX12_addOrder_51 rfl ?_
    refine zr_isub (pc := 52) hV dX12_addOrder_52 ?_
    have t12 := zx_g3 hσ44
    have t13 : σ44 0 3 = σ39 0 3 := by rw [eσ44]; exact zq_up_ne (by omega)
    have t14 : σ39 0 3 = (σ31 0 3) + 1 := by rw [eσ39]; exact zq_up_same _ _ _ _
    have t15 := zx_g3 hσ44
    have t16 : σ44 0 3 = σ39 0 3 := by rw [eσ44]; exact zq_up_ne (by omega)
    have t17 : σ39 0 3 = (σ31 0 3) + 1 := by rw [eσ39]; exact zq_up_same _ _ _ _
    exact zr_iret (pc := 53) hV dX12_addOrder_53 rfl rfl ⟨_, rfl, (by omega), hσ44, hFσ44, (by omega), (show (∀ o, o ≠ σ 0 3 → σ44 8 o = σ 8 o ∧ σ44 9 o = σ 9 o) ∧ (σ44 0 3 = σ 0 3 + 1 → σ44 8 (σ 0 3) = -1 ∧ σ44 9 (σ 0 3) = -1) from ⟨fun o ho => ⟨by rw [eσ44, zq_up_ne (by omega), eσ39, zq_up_ne (by omega), eσ31, zq_up_ne (by omega), eσ21, zq_up_ne (by omega)], by rw [eσ44, zq_up_ne (by omega), eσ39, zq_up_ne (by omega), eσ31, zq_up_ne (by omega), eσ21, zq_up_ne (by omega)]⟩, fun _ => ⟨by rw [eσ44, zq_up_ne (by omega), eσ39, zq_up_ne (by omega), eσ31, zq_up_ne (by omega), eσ21, zq_up_same], by rw [eσ44, zq_up_ne (by omega), eσ39, zq_up_ne (by omega), eσ31, e3n, zq_up_same]⟩⟩), Mσ44, Oσ44, Tσ44, Wσ44⟩
  · show V 9 [some (ZR 0)] [] 41 σ
    refine zr_bipush (pc := 9) hV (-3) dX12_addOrder_9 (by decide) ?_
    have t18 := zx_g3 hσ
    have t19 := zx_g3 hσ
    exact zr_iret (pc := 11) hV dX12_addOrder_11 rfl rfl ⟨_, rfl, ⟨by decide, by decide⟩, hσ, (fun a i _ => rfl), (by omega), (show (∀ o, o ≠ σ 0 3 → σ 8 o = σ 8 o ∧ σ 9 o = σ 9 o) ∧ (σ 0 3 = σ 0 3 + 1 → σ 8 (σ 0 3) = -1 ∧ σ 9 (σ 0 3) = -1) from ⟨fun _ _ => ⟨rfl, rfl⟩, fun h => by exfalso; omega⟩), Mσ, Oσ, Tσ, Wσ⟩
set_option maxHeartbeats 800000 in
theorem c_X12_order4 {σ : zq_S} (hσ : zx_T σ) (q0 : ∀ i, 0 ≤ i → i < σ 0 14 → 0 ≤ σ 10 i) (Mσ : zx_M σ) (Oσ : zx_O σ) (Tσ : zx_TK σ) (Wσ : zx_W σ) : zq_C zx_w yX12_order cX12_order 3 (some .int) 6 143 41 41 [ZR 0] σ (zq_pi (fun r τ => zx_T τ ∧ (∀ a i : Int, (¬ (a = 0 ∧ i = 14) ∧ ¬ (a = 0 ∧ i = 15) ∧ ¬ (a = 0 ∧ i = 16) ∧ ¬ (a = 0 ∧ i = 17) ∧ ¬ (a = 0 ∧ i = 18) ∧ ¬ (a = 0 ∧ i = 3) ∧ ¬ (a = 0 ∧ i = 30) ∧ ¬ (a = 1 ∧ i = (σ 0 3)) ∧ ¬ (a = 2 ∧ 12 * (σ 0 3) ≤ i ∧ i < 12 * (σ 0 3) + 12) ∧ ¬ (a = 3 ∧ i = (σ 0 3)) ∧ ¬ (a = 4 ∧ i = (σ 0 3)) ∧ ¬ (a = 5 ∧ i = (σ 0 3)) ∧ ¬ (a = 6 ∧ 18 * (σ 0 3) ≤ i ∧ i < 18 * (σ 0 3) + 18) ∧ ¬ (a = 7 ∧ i = (σ 0 3)) ∧ a ≠ 8 ∧ a ≠ 9) → τ a i = σ a i) ∧ (τ 0 14 = 0) ∧ zq_hid (zt_ro σ τ r ∧ ((∀ o, o ≠ σ 0 3 → τ 8 o = σ 8 o ∧ τ 9 o = σ 9 o) ∧ (τ 0 3 = σ 0 3 + 1 → τ 8 (σ 0 3) = -1 ∧ τ 9 (σ 0 3) = -1))) ∧ zx_M τ ∧ zx_O τ ∧ zx_TK τ ∧ zx_W τ)) := by
  refine zq_C_of (by decide) (Nat.le_refl _) (Nat.le_of_ble_eq_true rfl) [some (ZR 0), none, none] rfl (fun V hV => ?_)
  show V 0 [some (ZR 0), none, none] [] 41 σ
  refine zr_aload_n (pc := 0) hV dX12_order_0 rfl rfl ?_
  refine zr_aload_n (pc := 1) hV dX12_order_1 rfl rfl ?_
  refine zr_getI (pc := 2) hV 3 dX12_order_2 fX12_150 rfl rfl rfl (by decide) ?_
  have t1 := zx_g3 hσ
  have t2 := zx_g14 hσ
  refine zr_callVi (pc := 5) hV [ZI (σ 0 3)] (st := []) (c_X12_readOrder3 (σ := σ) hσ (σ 0 3) (by omega) q0) dX12_order_5 mX12_262 rfl (by decide) (by decide) (Nat.le_of_ble_eq_true rfl) (Nat.le_refl _) (fun r5 σ5 hr5 pσ5 => ?_)
  obtain ⟨hσ5, hfσ5, pσ5, wσ5⟩ := pσ5
  have Mσ5 : zx_M σ5 := zx_M_fr (fun i => hfσ5 18 i (by omega)) (hfσ5 0 30 (by omega)) (hfσ5 0 2 (by omega)) (hfσ5 0 3 (by omega)) Mσ
  have Oσ5 : zx_O σ5 := zx_O_old hσ (hfσ5 0 2 (by omega)) (hfσ5 0 3 (by omega)) (fun i h => hfσ5 2 i (by omega)) (fun i h => hfσ5 5 i (by omega)) (fun i h => hfσ5 6 i (by omega)) Oσ
  have Tσ5 : zx_TK σ5 := zx_TK_old (hfσ5 0 3 (by omega)) (fun i h => hfσ5 7 i (by omega)) Tσ
  have Wσ5 : zx_W σ5 := zx_W_old (fun i => hfσ5 18 i (by omega)) (hfσ5 0 30 (by omega)) (hfσ5 0 2 (by omega)) (hfσ5 0 3 (by omega)) (by have := zx_g2 hσ; omega) (fun i h => hfσ5 2 i (by omega)) Wσ
  have hFσ5 : ∀ a i : Int, (¬ (a = 0 ∧ i = 14) ∧ ¬ (a = 0 ∧ i = 15) ∧ ¬ (a = 0 ∧ i = 16) ∧ ¬ (a = 0 ∧ i = 17) ∧ ¬ (a = 0 ∧ i = 18) ∧ ¬ (a = 0 ∧ i = 3) ∧ ¬ (a = 0 ∧ i = 30) ∧ ¬ (a = 1 ∧ i = (σ 0 3)) ∧ ¬ (a = 2 ∧ 12 * (σ 0 3) ≤ i ∧ i < 12 * (σ 0 3) + 12) ∧ ¬ (a = 3 ∧ i = (σ 0 3)) ∧ ¬ (a = 4 ∧ i = (σ 0 3)) ∧ ¬ (a = 5 ∧ i = (σ 0 3)) ∧ ¬ (a = 6 ∧ 18 * (σ 0 3) ≤ i ∧ i < 18 * (σ 0 3) + 18) ∧ ¬ (a = 7 ∧ i = (σ 0 3)) ∧ a ≠ 8 ∧ a ≠ 9) → σ5 a i = σ a i := fun a i h => (hfσ5 a i ⟨h.2.1, h.2.2.1, h.2.2.2.1, (fun q => h.2.2.2.2.2.2.2.1 ⟨q.1, by omega⟩), (fun q => h.2.2.2.2.2.2.2.2.1 ⟨q.1, by omega⟩), (fun q => h.2.2.2.2.2.2.2.2.2.1 ⟨q.1, by omega⟩), (fun q => h.2.2.2.2.2.2.2.2.2.2.1 ⟨q.1, by omega⟩), (fun q => h.2.2.2.2.2.2.2.2.2.2.2.1 ⟨q.1, by omega⟩), (fun q => h.2.2.2.2.2.2.2.2.2.2.2.2.1 ⟨q.1, by omega⟩), (fun q => h.2.2.2.2.2.2.2.2.2.2.2.2.2.1 ⟨q.1, by omega⟩)⟩)
  have t3 := zx_g0 hσ
  have t4 := zx_g1 hσ
  have t5 := zx_g14 hσ
  have t6 := zx_g2 hσ
  have t7 := zx_g3 hσ
  refine zr_istore_n (pc := 8) hV [some (ZR 0), some (ZI r5), none] dX12_order_8 rfl (by decide) rfl rfl ?_
  refine zr_aload_n (pc := 9) hV dX12_order_9 rfl rfl ?_
  refine zr_iconst (pc := 10) hV 0 dX12_order_10 rfl ?_
  refine zr_putI (pc := 11) hV 14 dX12_order_11 fX12_197 rfl rfl rfl rfl (by decide) (fun σ11 eσ11 => ?_)
  have hσ11 : zx_T σ11 := zx_u14 eσ11 hσ5 (by omega)
  have hFσ11 : ∀ a i : Int, (¬ (a = 0 ∧ i = 14) ∧ ¬ (a = 0 ∧ i = 15) ∧ ¬ (a = 0 ∧ i = 16) ∧ ¬ (a = 0 ∧ i = 17) ∧ ¬ (a = 0 ∧ i = 18) ∧ ¬ (a = 0 ∧ i = 3) ∧ ¬ (a = 0 ∧ i = 30) ∧ ¬ (a = 1 ∧ i = (σ 0 3)) ∧ ¬ (a = 2 ∧ 12 * (σ 0 3) ≤ i ∧ i < 12 * (σ 0 3) + 12) ∧ ¬ (a = 3 ∧ i = (σ 0 3)) ∧ ¬ (a = 4 ∧ i = (σ 0 3)) ∧ ¬ (a = 5 ∧ i = (σ 0 3)) ∧ ¬ (a = 6 ∧ 18 * (σ 0 3) ≤ i ∧ i < 18 * (σ 0 3) + 18) ∧ ¬ (a = 7 ∧ i = (σ 0 3)) ∧ a ≠ 8 ∧ a ≠ 9) → σ11 a i = σ a i := fun a i h => by rw [eσ11, zq_up_ne h.1]; exact hFσ5 a i h
  have Mσ11 : zx_M σ11 := zx_M_fr (fun i => by rw [eσ11]; exact zq_up_ne (by omega)) (by rw [eσ11]; exact zq_up_ne (by omega)) (by rw [eσ11]; exact zq_up_ne (by omega)) (by rw [eσ11]; exact zq_up_ne (by omega)) Mσ5
  have Oσ11 : zx_O σ11 := zx_O_fr (fun i => by rw [eσ11]; exact zq_up_ne (by omega)) (fun i => by rw [eσ11]; exact zq_up_ne (by omega)) (fun i => by rw [eσ11]; exact zq_up_ne (by omega)) (by rw [eσ11]; exact zq_up_ne (by omega)) (by rw [eσ11]; exact zq_up_ne (by omega)) Oσ5
  have Tσ11 : zx_TK σ11 := zx_TK_fr (fun i => by rw [eσ11]; exact zq_up_ne (by omega)) (by rw [eσ11]; exact zq_up_ne (by omega)) Tσ5
  have Wσ11 : zx_W σ11 := zx_W_fr (fun i => by rw [eσ11]; exact zq_up_ne (by omega)) (by rw [eσ11]; exact zq_up_ne (by omega)) (by rw [eσ11]; exact zq_up_ne (by omega)) (by rw [eσ11]; exact zq_up_ne (by omega)) (fun i => by rw [eσ11]; exact zq_up_ne (by omega)) Wσ5
  have z3 : σ11 0 3 = σ 0 3 := by rw [eσ11, zq_up_ne (by omega)]; exact hfσ5 0 3 (by omega)
  have z15 : σ11 0 15 = σ5 0 15 := by rw [eσ11]; exact zq_up_ne (by omega)
  refine zr_iload_n (pc := 14) hV dX12_order_14 rfl rfl ?_
  refine zr_if_ne (pc := 15) hV 26 dX12_order_15 (by decide) (by omega) (fun c8 => ?_) (fun c8 => ?_)
  · show V 26 [some (ZR 0), some (ZI r5), none] [] 41 σ11
    refine zr_aload_n (pc := 26) hV dX12_order_26 rfl rfl ?_
    refine zr_aload_n (pc := 27) hV dX12_order_27 rfl rfl ?_
    refine zr_getI (pc := 28) hV 3 dX12_order_28 fX12_150 rfl rfl rfl (by decide) ?_
    have t9 := zx_g3 hσ11
    have t10 : σ11 0 3 = σ5 0 3 := by rw [eσ11]; exact zq_up_ne (by omega)
    have t11 : σ5 0 3 = σ 0 3 := hfσ5 _ _ (by omega)
    refine zr_callVp (pc := 31) hV [ZI (σ11 0 3)] (st := []) (c_X12_sharedWith2 (σ := σ11) hσ11 (σ11 0 3) (by omega)) dX12_order_31 mX12_265 rfl (by decide) (by decide) (Nat.le_of_ble_eq_true rfl) (Nat.le_refl _) (fun r31 hr31 pr31 => ?_)
    have t12 := zx_g3 hσ11
    have t13 : σ11 0 3 = σ5 0 3 := by rw [eσ11]; exact zq_up_ne (by omega)
    have t14 : σ5 0 3 = σ 0 3 := hfσ5 _ _ (by omega)
    have sw31 : zt_sw σ11 (σ 0 3) (σ 0 3) r31 := by have q := pr31; rw [z3] at q; exact q
    refine zr_istore_n (pc := 34) hV [some (ZR 0), some (ZI r5), some (ZI r31)] dX12_order_34 rfl (by decide) rfl rfl ?_
    refine zr_iload_n (pc := 35) hV dX12_order_35 rfl rfl ?_
    refine zr_if_lt (pc := 36) hV 47 dX12_order_36 (by decide) (by omega) (fun c15 => ?_) (fun c15 => ?_)
    · show V 47 [some (ZR 0), some (ZI r5), some (ZI r31)] [] 41 σ11
      refine zr_aload_n (pc := 47) hV dX12_order_47 rfl rfl ?_
      have t16 := zx_g3 hσ11
      have t17 : σ11 0 3 = σ5 0 3 := by rw [eσ11]; exact zq_up_ne (by omega)
      have t18 : σ5 0 3 = σ 0 3 := hfσ5 _ _ (by omega)
      have t19 := zx_g3 hσ11
      have t20 : σ11 0 3 = σ5 0 3 := by rw [eσ11]; exact zq_up_ne (by omega)
      have t21 : σ5 0 3 = σ 0 3 := hfσ5 _ _ (by omega)
      have t22 := zx_g3 hσ11
      have t23 : σ11 0 3 = σ5 0 3 := by rw [eσ11]; exact zq_up_ne (by omega)
      have t24 : σ5 0 3 = σ 0 3 := hfσ5 _ _ (by omega)
      refine zr_callVi (pc := 48) hV [] (st := []) (c_X12_addOrder4 (σ := σ11) hσ11 (by rw [z3]; exact zx_A_fr (fun i => by rw [eσ11]; exact zq_up_ne (by omega)) (fun i => by rw [eσ11]; exact zq_up_ne (by omega)) (wσ5.1 (by omega)).2.2.2.1) (by rw [z3]; exact zx_B_fr (fun i => by rw [eσ11]; exact zq_up_ne (by omega)) (by rw [eσ11]; exact zq_up_ne (by omega)) (wσ5.1 (by omega)).2.2.2.2.1) (by rw [z3, eσ11, zq_up_ne (by omega)]; exact (wσ5.1 (by omega)).2.2.2.2.2) Mσ11 Oσ11 Tσ11 Wσ11) dX12_order_48 mX12_268 rfl (by decide) (by decide) (Nat.le_of_ble_eq_true rfl) (Nat.le_refl _) (fun r48 σ48 hr48 pσ48 => ?_)
      obtain ⟨hσ48, hfσ48, pσ48, wσ48, Mσ48, Oσ48, Tσ48, Wσ48⟩ := pσ48
      have hFσ48 : ∀ a i : Int, (¬ (a = 0 ∧ i = 14) ∧ ¬ (a = 0 ∧ i = 15) ∧ ¬ (a = 0 ∧ i = 16) ∧ ¬ (a = 0 ∧ i = 17) ∧ ¬ (a = 0 ∧ i = 18) ∧ ¬ (a = 0 ∧ i = 3) ∧ ¬ (a = 0 ∧ i = 30) ∧ ¬ (a = 1 ∧ i = (σ 0 3)) ∧ ¬ (a = 2 ∧ 12 * (σ 0 3) ≤ i ∧ i < 12 * (σ 0 3) + 12) ∧ ¬ (a = 3 ∧ i = (σ 0 3)) ∧ ¬ (a = 4 ∧ i = (σ 0 3)) ∧ ¬ (a = 5 ∧ i = (σ 0 3)) ∧ ¬ (a = 6 ∧ 18 * (σ 0 3) ≤ i ∧ i < 18 * (σ 0 3) + 18) ∧ ¬ (a = 7 ∧ i = (σ 0 3)) ∧ a ≠ 8 ∧ a ≠ 9) → σ48 a i = σ a i := fun a i h => (hfσ48 a i ⟨h.2.2.2.2.2.1, h.2.2.2.2.2.2.1, h.2.2.2.2.2.2.2.2.2.2.2.2.2.2.1, h.2.2.2.2.2.2.2.2.2.2.2.2.2.2.2⟩).trans (hFσ11 a i h)
      have t25 := zx_g3 hσ11
      have t26 : σ11 0 3 = σ5 0 3 := by rw [eσ11]; exact zq_up_ne (by omega)
      have t27 : σ5 0 3 = σ 0 3 := hfσ5 _ _ (by omega)
      have t28 := zx_g3 hσ48
      have t29 := zx_g3 hσ48
      have t30 := zx_g14 hσ48
      have t31 : σ48 0 14 = σ11 0 14 := hfσ48 _ _ (by omega)
      have t32 : σ11 0 14 = 0 := by rw [eσ11]; exact zq_up_same _ _ _ _
      exact zr_iret (pc := 51) hV dX12_order_51 rfl rfl ⟨_, rfl, (by omega), hσ48, hFσ48, (by omega), (show zt_ro σ σ48 r48 ∧ ((∀ o, o ≠ σ 0 3 → σ48 8 o = σ 8 o ∧ σ48 9 o = σ 9 o) ∧ (σ48 0 3 = σ 0 3 + 1 → σ48 8 (σ 0 3) = -1 ∧ σ48 9 (σ 0 3) = -1)) from ⟨(by have v := wσ5.1 (by omega); exact ⟨fun d => absurd d v.1, fun _ nk => absurd v.2.1 nk, fun _ _ => ⟨zt_cR_fr (by rw [hfσ48 1 _ (by omega), eσ11, zq_up_ne (by omega)]) (fun i => by rw [hfσ48 2 _ (by omega), eσ11, zq_up_ne (by omega)]) (by rw [hfσ48 3 _ (by omega), eσ11, zq_up_ne (by omega)]) (by rw [hfσ48 4 _ (by omega), eσ11, zq_up_ne (by omega)]) (by rw [hfσ48 5 _ (by omega), eσ11, zq_up_ne (by omega)]) (fun i => by rw [hfσ48 6 _ (by omega), eσ11, zq_up_ne (by omega)]) (by rw [hfσ48 7 _ (by omega), eσ11, zq_up_ne (by omega)]) v.2.2.1, r31, zt_sw_fr (fun i => by rw [hfσ48 2 _ (by omega)]) (by rw [hfσ48 0 _ (by omega)]) sw31, fun h => absurd h (by omega), fun _ => ⟨by rw [hfσ48 0 18 (by omega)]; rw [eσ11, zq_up_ne (by omega)]; exact hfσ5 0 18 (by omega), by rw [← z3]; exact pσ48.1, by rw [← z3]; exact pσ48.2⟩⟩⟩), (by have w := wσ48; rw [z3] at w; exact ⟨fun o ho => ⟨by rw [(w.1 o ho).1, eσ11, zq_up_ne (by omega), hfσ5 8 _ (by omega)], by rw [(w.1 o ho).2, eσ11, zq_up_ne (by omega), hfσ5 9 _ (by omega)]⟩, fun h => w.2 h⟩)⟩), Mσ48, Oσ48, Tσ48, Wσ48⟩
    · show V 39 [some (ZR 0), some (ZI r5), some (ZI r31)] [] 41 σ11
      refine zr_aload_n (pc := 39) hV dX12_order_39 rfl rfl ?_
      refine zr_iload_n (pc := 40) hV dX12_order_40 rfl rfl ?_
      refine zr_putI (pc := 41) hV 18 dX12_order_41 fX12_157 rfl rfl rfl rfl (by decide) (fun σ41 eσ41 => ?_)
      have hσ41 : zx_T σ41 := zx_u18 eσ41 hσ11 (by omega)
      have hFσ41 : ∀ a i : Int, (¬ (a = 0 ∧ i = 14) ∧ ¬ (a = 0 ∧ i = 15) ∧ ¬ (a = 0 ∧ i = 16) ∧ ¬ (a = 0 ∧ i = 17) ∧ ¬ (a = 0 ∧ i = 18) ∧ ¬ (a = 0 ∧ i = 3) ∧ ¬ (a = 0 ∧ i = 30) ∧ ¬ (a = 1 ∧ i = (σ 0 3)) ∧ ¬ (a = 2 ∧ 12 * (σ 0 3) ≤ i ∧ i < 12 * (σ 0 3) + 12) ∧ ¬ (a = 3 ∧ i = (σ 0 3)) ∧ ¬ (a = 4 ∧ i = (σ 0 3)) ∧ ¬ (a = 5 ∧ i = (σ 0 3)) ∧ ¬ (a = 6 ∧ 18 * (σ 0 3) ≤ i ∧ i < 18 * (σ 0 3) + 18) ∧ ¬ (a = 7 ∧ i = (σ 0 3)) ∧ a ≠ 8 ∧ a ≠ 9) → σ41 a i = σ a i := fun a i h => by rw [eσ41, zq_up_ne h.2.2.2.2.1]; exact hFσ11 a i h
      have Mσ41 : zx_M σ41 := zx_M_fr (fun i => by rw [eσ41]; exact zq_up_ne (by omega)) (by rw [eσ41]; exact zq_up_ne (by omega)) (by rw [eσ41]; exact zq_up_ne (by omega)) (by rw [eσ41]; exact zq_up_ne (by omega)) Mσ11
      have Oσ41 : zx_O σ41 := zx_O_fr (fun i => by rw [eσ41]; exact zq_up_ne (by omega)) (fun i => by rw [eσ41]; exact zq_up_ne (by omega)) (fun i => by rw [eσ41]; exact zq_up_ne (by omega)) (by rw [eσ41]; exact zq_up_ne (by omega)) (by rw [eσ41]; exact zq_up_ne (by omega)) Oσ11
      have Tσ41 : zx_TK σ41 := zx_TK_fr (fun i => by rw [eσ41]; exact zq_up_ne (by omega)) (by rw [eσ41]; exact zq_up_ne (by omega)) Tσ11
      have Wσ41 : zx_W σ41 := zx_W_fr (fun i => by rw [eσ41]; exact zq_up_ne (by omega)) (by rw [eσ41]; exact zq_up_ne (by omega)) (by rw [eσ41]; exact zq_up_ne (by omega)) (by rw [eσ41]; exact zq_up_ne (by omega)) (fun i => by rw [eσ41]; exact zq_up_ne (by omega)) Wσ11
      refine zr_bipush (pc := 44) hV (-2) dX12_order_44 (by decide) ?_
      have t33 := zx_g3 hσ41
      have t34 : σ41 0 3 = σ11 0 3 := by rw [eσ41]; exact zq_up_ne (by omega)
      have t35 : σ11 0 3 = σ5 0 3 := by rw [eσ11]; exact zq_up_ne (by omega)
      have t36 : σ5 0 3 = σ 0 3 := hfσ5 _ _ (by omega)
      have t37 := zx_g14 hσ41
      have t38 : σ41 0 14 = σ11 0 14 := by rw [eσ41]; exact zq_up_ne (by omega)
      have t39 : σ11 0 14 = 0 := by rw [eσ11]; exact zq_up_same _ _ _ _
      exact zr_iret (pc := 46) hV dX12_order_46 rfl rfl ⟨_, rfl, ⟨by decide, by decide⟩, hσ41, hFσ41, (by omega), (show zt_ro σ σ41 ((-2) : Int) ∧ ((∀ o, o ≠ σ 0 3 → σ41 8 o = σ 8 o ∧ σ41 9 o = σ 9 o) ∧ (σ41 0 3 = σ 0 3 + 1 → σ41 8 (σ 0 3) = -1 ∧ σ41 9 (σ 0 3) = -1)) from ⟨(by have v := wσ5.1 (by omega); exact ⟨fun d => absurd d v.1, fun _ nk => absurd v.2.1 nk, fun _ _ => ⟨zt_cR_fr (by rw [eσ41, zq_up_ne (by omega), eσ11, zq_up_ne (by omega)]) (fun i => by rw [eσ41, zq_up_ne (by omega), eσ11, zq_up_ne (by omega)]) (by rw [eσ41, zq_up_ne (by omega), eσ11, zq_up_ne (by omega)]) (by rw [eσ41, zq_up_ne (by omega), eσ11, zq_up_ne (by omega)]) (by rw [eσ41, zq_up_ne (by omega), eσ11, zq_up_ne (by omega)]) (fun i => by rw [eσ41, zq_up_ne (by omega), eσ11, zq_up_ne (by omega)]) (by rw [eσ41, zq_up_ne (by omega), eσ11, zq_up_ne (by omega)]) v.2.2.1, r31, zt_sw_fr (fun i => by rw [eσ41, zq_up_ne (by omega)]) (by rw [eσ41, zq_up_ne (by omega)]) sw31, fun _ => ⟨by omega, by rw [eσ41, zq_up_same], by rw [eσ41, zq_up_ne (by omega)]; exact z3⟩, fun h => absurd h (by omega)⟩⟩), ⟨fun o _ => ⟨by rw [eσ41, zq_up_ne (by omega), eσ11, zq_up_ne (by omega), hfσ5 8 _ (by omega)], by rw [eσ41, zq_up_ne (by omega), eσ11, zq_up_ne (by omega), hfσ5 9 _ (by omega)]⟩, fun h => by exfalso; have z : σ41 0 3 = σ 0 3 := (by rw [eσ41, zq_up_ne (by omega), eσ11, zq_up_ne (by omega), hfσ5 0 _ (by omega)]); omega⟩⟩), Mσ41, Oσ41, Tσ41, Wσ41⟩
  · show V 18 [some (ZR 0), some (ZI r5), none] [] 41 σ11
    refine zr_bipush (pc := 18) hV (-20) dX12_order_18 (by decide) ?_
    refine zr_aload_n (pc := 20) hV dX12_order_20 rfl rfl ?_
    refine zr_getI (pc := 21) hV 15 dX12_order_21 fX12_200 rfl rfl rfl (by decide) ?_
    have t40 := zx_g15 hσ11
    have t41 : σ11 0 15 = σ5 0 15 := by rw [eσ11]; exact zq_up_ne (by omega)
    refine zr_isub (pc := 24) hV dX12_order_24 ?_
    have t42 := zx_g3 hσ11
    have t43 : σ11 0 3 = σ5 0 3 := by rw [eσ11]; exact zq_up_ne (by omega)
    have t44 : σ5 0 3 = σ 0 3 := hfσ5 _ _ (by omega)
    have t45 := zx_g14 hσ11
    have t46 : σ11 0 14 = 0 := by rw [eσ11]; exact zq_up_same _ _ _ _
    exact zr_iret (pc := 25) hV dX12_order_25 rfl rfl ⟨_, rfl, (by omega), hσ11, hFσ11, (by omega), (show zt_ro σ σ11 ((-20) - (σ11 0 15)) ∧ ((∀ o, o ≠ σ 0 3 → σ11 8 o = σ 8 o ∧ σ11 9 o = σ 9 o) ∧ (σ11 0 3 = σ 0 3 + 1 → σ11 8 (σ 0 3) = -1 ∧ σ11 9 (σ 0 3) = -1)) from ⟨⟨fun d => ⟨by have := (wσ5.2 (by omega)).1 d; omega, by rw [eσ11, zq_up_ne (by omega)]; exact hfσ5 0 18 (by omega), by omega⟩, fun nd nk => ⟨by have := ((wσ5.2 (by omega)).2 nd).2; omega, by rw [eσ11, zq_up_ne (by omega)]; exact hfσ5 0 18 (by omega), by omega⟩, fun nd k => absurd k ((wσ5.2 (by omega)).2 nd).1⟩, ⟨fun o _ => ⟨by rw [eσ11, zq_up_ne (by omega), hfσ5 8 _ (by omega)], by rw [eσ11, zq_up_ne (by omega), hfσ5 9 _ (by omega)]⟩, fun h => by exfalso; have z : σ11 0 3 = σ 0 3 := (by rw [eσ11, zq_up_ne (by omega), hfσ5 0 _ (by omega)]); omega⟩⟩), Mσ11, Oσ11, Tσ11, Wσ11⟩
set_option maxHeartbeats 800000 in
theorem c_X12_join3 {σ : zq_S} (hσ : zx_T σ) (a c : Int) (q0 : zq_in a) (q1 : zq_in c) (q2 : ∀ i, 0 ≤ i → i < σ 0 14 → 0 ≤ σ 10 i) (Mσ : zx_M σ) (Oσ : zx_O σ) (Tσ : zx_TK σ) (Wσ : zx_W σ) : zq_C zx_w yX12_join cX12_join 6 (some .int) 4 100 41 41 [ZR 0, ZI a, ZI c] σ (zq_pi (fun r τ => zx_T τ ∧ (∀ a i : Int, (¬ (a = 0 ∧ i = 14) ∧ ¬ (a = 0 ∧ i = 15) ∧ ¬ (a = 0 ∧ i = 16) ∧ ¬ (a = 0 ∧ i = 3) ∧ ¬ (a = 0 ∧ i = 30) ∧ ¬ (a = 0 ∧ i = 61) ∧ ¬ (a = 1 ∧ i = (σ 0 3)) ∧ a ≠ 18 ∧ ¬ (a = 2 ∧ 12 * (σ 0 3) ≤ i) ∧ ¬ (a = 3 ∧ i = (σ 0 3)) ∧ ¬ (a = 4 ∧ i = (σ 0 3)) ∧ ¬ (a = 5 ∧ i = (σ 0 3)) ∧ ¬ (a = 6 ∧ 18 * (σ 0 3) ≤ i) ∧ ¬ (a = 7 ∧ i = (σ 0 3)) ∧ a ≠ 8 ∧ a ≠ 9) → τ a i = σ a i) ∧ (True) ∧ zq_hid (zt_rj σ τ a c r ∧ ((∀ o, o ≠ σ 0 3 → τ 8 o = σ 8 o ∧ τ 9 o = σ 9 o) ∧ (τ 0 3 = σ 0 3 + 1 → τ 8 (σ 0 3) = -1 ∧ τ 9 (σ 0 3) = -1))) ∧ zx_M τ ∧ zx_O τ ∧ zx_TK τ ∧ zx_W τ)) := by
  refine zq_C_of (by decide) (Nat.le_refl _) (Nat.le_of_ble_eq_true rfl) [some (ZR 0), some (ZI a), some (ZI c), none, none, none] rfl (fun V hV => ?_)
  have z3 := zx_g3 hσ
  have z14 := zx_g14 hσ
  show V 0 [some (ZR 0), some (ZI a), some (ZI c), none, none, none] [] 41 σ
  refine zr_aload_n (pc := 0) hV dX12_join_0 rfl rfl ?_
  refine zr_iload_n (pc := 1) hV dX12_join_1 rfl rfl ?_
  refine zr_callVp (pc := 2) hV [ZI a] (st := []) (c_X12_isOrder (σ := σ) hσ a (by omega)) dX12_join_2 mX12_271 rfl (by decide) (by decide) (Nat.le_of_ble_eq_true rfl) (Nat.le_refl _) (fun r2 hr2 pr2 => ?_)
  have t1 := zx_g3 hσ
  refine zr_if_eq (pc := 5) hV 16 dX12_join_5 (by decide) (by omega) (fun c2 => ?_) (fun c2 => ?_)
  · show V 16 [some (ZR 0), some (ZI a), some (ZI c), none, none, none] [] 41 σ
    refine zr_iconst (pc := 16) hV (-1) dX12_join_16 rfl ?_
    have t3 := zx_g3 hσ
    exact zr_iret (pc := 17) hV dX12_join_17 rfl rfl ⟨_, rfl, ⟨by decide, by decide⟩, hσ, (fun a i _ => rfl), trivial, (show zt_rj σ σ a c ((-1) : Int) ∧ ((∀ o, o ≠ σ 0 3 → σ 8 o = σ 8 o ∧ σ 9 o = σ 9 o) ∧ (σ 0 3 = σ 0 3 + 1 → σ 8 (σ 0 3) = -1 ∧ σ 9 (σ 0 3) = -1)) from ⟨⟨fun _ => ⟨by omega, rfl, rfl⟩, fun h => absurd h (by omega)⟩, ⟨fun _ _ => ⟨rfl, rfl⟩, fun h => by exfalso; omega⟩⟩), Mσ, Oσ, Tσ, Wσ⟩
  · show V 8 [some (ZR 0), some (ZI a), some (ZI c), none, none, none] [] 41 σ
    refine zr_aload_n (pc := 8) hV dX12_join_8 rfl rfl ?_
    refine zr_iload_n (pc := 9) hV dX12_join_9 rfl rfl ?_
    refine zr_callVp (pc := 10) hV [ZI c] (st := []) (c_X12_isOrder (σ := σ) hσ c (by omega)) dX12_join_10 mX12_271 rfl (by decide) (by decide) (Nat.le_of_ble_eq_true rfl) (Nat.le_refl _) (fun r10 hr10 pr10 => ?_)
    have t4 := zx_g3 hσ
    refine zr_if_ne (pc := 13) hV 18 dX12_join_13 (by decide) (by omega) (fun c5 => ?_) (fun c5 => ?_)
    · show V 18 [some (ZR 0), some (ZI a), some (ZI c), none, none, none] [] 41 σ
      refine zr_aload_n (pc := 18) hV dX12_join_18 rfl rfl ?_
      refine zr_iconst (pc := 19) hV 0 dX12_join_19 rfl ?_
      refine zr_putI (pc := 20) hV 15 dX12_join_20 fX12_200 rfl rfl rfl rfl (by decide) (fun σ20 eσ20 => ?_)
      have hσ20 : zx_T σ20 := zx_u15 eσ20 hσ (by omega)
      have hFσ20 : ∀ a i : Int, (¬ (a = 0 ∧ i = 14) ∧ ¬ (a = 0 ∧ i = 15) ∧ ¬ (a = 0 ∧ i = 16) ∧ ¬ (a = 0 ∧ i = 3) ∧ ¬ (a = 0 ∧ i = 30) ∧ ¬ (a = 0 ∧ i = 61) ∧ ¬ (a = 1 ∧ i = (σ 0 3)) ∧ a ≠ 18 ∧ ¬ (a = 2 ∧ 12 * (σ 0 3) ≤ i) ∧ ¬ (a = 3 ∧ i = (σ 0 3)) ∧ ¬ (a = 4 ∧ i = (σ 0 3)) ∧ ¬ (a = 5 ∧ i = (σ 0 3)) ∧ ¬ (a = 6 ∧ 18 * (σ 0 3) ≤ i) ∧ ¬ (a = 7 ∧ i = (σ 0 3)) ∧ a ≠ 8 ∧ a ≠ 9) → σ20 a i = σ a i := fun a i h => by rw [eσ20, zq_up_ne h.2.1]
      have Mσ20 : zx_M σ20 := zx_M_fr (fun i => by rw [eσ20]; exact zq_up_ne (by omega)) (by rw [eσ20]; exact zq_up_ne (by omega)) (by rw [eσ20]; exact zq_up_ne (by omega)) (by rw [eσ20]; exact zq_up_ne (by omega)) Mσ
      have Oσ20 : zx_O σ20 := zx_O_fr (fun i => by rw [eσ20]; exact zq_up_ne (by omega)) (fun i => by rw [eσ20]; exact zq_up_ne (by omega)) (fun i => by rw [eσ20]; exact zq_up_ne (by omega)) (by rw [eσ20]; exact zq_up_ne (by omega)) (by rw [eσ20]; exact zq_up_ne (by omega)) Oσ
      have Tσ20 : zx_TK σ20 := zx_TK_fr (fun i => by rw [eσ20]; exact zq_up_ne (by omega)) (by rw [eσ20]; exact zq_up_ne (by omega)) Tσ
      have Wσ20 : zx_W σ20 := zx_W_fr (fun i => by rw [eσ20]; exact zq_up_ne (by omega)) (by rw [eσ20]; exact zq_up_ne (by omega)) (by rw [eσ20]; exact zq_up_ne (by omega)) (by rw [eσ20]; exact zq_up_ne (by omega)) (fun i => by rw [eσ20]; exact zq_up_ne (by omega)) Wσ
      refine zr_aload_n (pc := 23) hV dX12_join_23 rfl rfl ?_
      refine zr_callVi (pc := 24) hV [] (st := []) (c_X12_readNewName2 (σ := σ20) hσ20 ) dX12_join_24 mX12_248 rfl (by decide) (by decide) (Nat.le_of_ble_eq_true rfl) (Nat.le_refl _) (fun r24 σ24 hr24 pσ24 => ?_)
      obtain ⟨hσ24, hfσ24, pσ24, wσ24⟩ := pσ24
      have Mσ24 : zx_M σ24 := zx_M_fr (fun i => hfσ24 18 i (by omega)) (hfσ24 0 30 (by omega)) (hfσ24 0 2 (by omega)) (hfσ24 0 3 (by omega)) Mσ20
      have Oσ24 : zx_O σ24 := zx_O_fr (fun i => hfσ24 2 i (by omega)) (fun i => hfσ24 5 i (by omega)) (fun i => hfσ24 6 i (by omega)) (hfσ24 0 2 (by omega)) (hfσ24 0 3 (by omega)) Oσ20
      have Tσ24 : zx_TK σ24 := zx_TK_fr (fun i => hfσ24 7 i (by omega)) (hfσ24 0 3 (by omega)) Tσ20
      have Wσ24 : zx_W σ24 := zx_W_fr (fun i => hfσ24 18 i (by omega)) (hfσ24 0 30 (by omega)) (hfσ24 0 2 (by omega)) (hfσ24 0 3 (by omega)) (fun i => hfσ24 2 i (by omega)) Wσ20
      have hFσ24 : ∀ a i : Int, (¬ (a = 0 ∧ i = 14) ∧ ¬ (a = 0 ∧ i = 15) ∧ ¬ (a = 0 ∧ i = 16) ∧ ¬ (a = 0 ∧ i = 3) ∧ ¬ (a = 0 ∧ i = 30) ∧ ¬ (a = 0 ∧ i = 61) ∧ ¬ (a = 1 ∧ i = (σ 0 3)) ∧ a ≠ 18 ∧ ¬ (a = 2 ∧ 12 * (σ 0 3) ≤ i) ∧ ¬ (a = 3 ∧ i = (σ 0 3)) ∧ ¬ (a = 4 ∧ i = (σ 0 3)) ∧ ¬ (a = 5 ∧ i = (σ 0 3)) ∧ ¬ (a = 6 ∧ 18 * (σ 0 3) ≤ i) ∧ ¬ (a = 7 ∧ i = (σ 0 3)) ∧ a ≠ 8 ∧ a ≠ 9) → σ24 a i = σ a i := fun a i h => (hfσ24 a i ⟨h.2.1, h.2.2.1⟩).trans (hFσ20 a i h)
      have t6 := zx_g14 hσ20
      have t7 : σ20 0 14 = σ 0 14 := by rw [eσ20]; exact zq_up_ne (by omega)
      have t8 := zx_g15 hσ20
      have t9 : σ20 0 15 = 0 := by rw [eσ20]; exact zq_up_same _ _ _ _
      have t10 := zx_g3 hσ20
      have t11 : σ20 0 3 = σ 0 3 := by rw [eσ20]; exact zq_up_ne (by omega)
      have t12 := zx_g15 hσ24
      have z20 : σ20 0 15 = 0 := by rw [eσ20, zq_up_same]
      have T20 : σ20 10 = σ 10 := funext (fun i => by rw [eσ20, zq_up_ne (by omega)])
      have N20 : σ20 0 14 = σ 0 14 := by rw [eσ20, zq_up_ne (by omega)]
      rw [T20, N20, z20] at pσ24 wσ24
      have T24 : σ24 10 = σ 10 := funext (fun i => by rw [hfσ24 10 i (by omega), eσ20, zq_up_ne (by omega)])
      have N24 : σ24 0 14 = σ 0 14 := by rw [hfσ24 0 14 (by omega), eσ20, zq_up_ne (by omega)]
      have dn : zq_hid (r24 ≠ 0 → ¬ ((zt_n0 (σ 10) (σ 0 14)) = 0 ∨ ∃ i, 0 ≤ i ∧ i < σ 0 3 ∧ σ 1 i = (zt_nb (σ 10) (zt_z0 (σ 10) (σ 0 14)) (zt_n0 (σ 10) (σ 0 14))))) := fun hr q => q.elim (fun e => (wσ24.1 hr).2.1 e) (fun ⟨i, h0, h1, h2⟩ => (wσ24.1 hr).2.2 i h0 (by rw [eσ20, zq_up_ne (by omega)]; exact h1) (by rw [eσ20, zq_up_ne (by omega)]; exact h2))
      have dy : zq_hid (r24 = 0 → ((zt_n0 (σ 10) (σ 0 14)) = 0 ∨ ∃ i, 0 ≤ i ∧ i < σ 0 3 ∧ σ 1 i = (zt_nb (σ 10) (zt_z0 (σ 10) (σ 0 14)) (zt_n0 (σ 10) (σ 0 14))))) := fun hr => (wσ24.2 hr).imp id (fun ⟨i, h0, h1, h2⟩ => ⟨i, h0, by rw [← (show σ20 0 3 = σ 0 3 by rw [eσ20, zq_up_ne (by omega)])]; exact h1, by rw [← (show σ20 1 i = σ 1 i by rw [eσ20, zq_up_ne (by omega)])]; exact h2⟩)
      refine zr_istore_n (pc := 27) hV [some (ZR 0), some (ZI a), some (ZI c), some (ZI r24), none, none] dX12_join_27 rfl (by decide) rfl rfl ?_
      refine zr_iload_n (pc := 28) hV dX12_join_28 rfl rfl ?_
      refine zr_if_eq (pc := 29) hV 43 dX12_join_29 (by decide) (by omega) (fun c13 => ?_) (fun c13 => ?_)
      · show V 43 [some (ZR 0), some (ZI a), some (ZI c), some (ZI r24), none, none] [] 41 σ24
        refine zr_iconst (pc := 43) hV 0 dX12_join_43 rfl ?_
        show V 44 [some (ZR 0), some (ZI a), some (ZI c), some (ZI r24), none, none] [ZI 0] 41 σ24
        refine zr_istore (pc := 44) hV [some (ZR 0), some (ZI a), some (ZI c), some (ZI r24), some (ZI 0), none] dX12_join_44 (by decide) rfl rfl ?_
        refine zr_aload_n (pc := 46) hV dX12_join_46 rfl rfl ?_
        refine zr_iconst (pc := 47) hV 0 dX12_join_47 rfl ?_
        refine zr_putI (pc := 48) hV 14 dX12_join_48 fX12_197 rfl rfl rfl rfl (by decide) (fun σ48 eσ48 => ?_)
        have hσ48 : zx_T σ48 := zx_u14 eσ48 hσ24 (by omega)
        have hFσ48 : ∀ a i : Int, (¬ (a = 0 ∧ i = 14) ∧ ¬ (a = 0 ∧ i = 15) ∧ ¬ (a = 0 ∧ i = 16) ∧ ¬ (a = 0 ∧ i = 3) ∧ ¬ (a = 0 ∧ i = 30) ∧ ¬ (a = 0 ∧ i = 61) ∧ ¬ (a = 1 ∧ i = (σ 0 3)) ∧ a ≠ 18 ∧ ¬ (a = 2 ∧ 12 * (σ 0 3) ≤ i) ∧ ¬ (a = 3 ∧ i = (σ 0 3)) ∧ ¬ (a = 4 ∧ i = (σ 0 3)) ∧ ¬ (a = 5 ∧ i = (σ 0 3)) ∧ ¬ (a = 6 ∧ 18 * (σ 0 3) ≤ i) ∧ ¬ (a = 7 ∧ i = (σ 0 3)) ∧ a ≠ 8 ∧ a ≠ 9) → σ48 a i = σ a i := fun a i h => by rw [eσ48, zq_up_ne h.1]; exact hFσ24 a i h
        have Mσ48 : zx_M σ48 := zx_M_fr (fun i => by rw [eσ48]; exact zq_up_ne (by omega)) (by rw [eσ48]; exact zq_up_ne (by omega)) (by rw [eσ48]; exact zq_up_ne (by omega)) (by rw [eσ48]; exact zq_up_ne (by omega)) Mσ24
        have Oσ48 : zx_O σ48 := zx_O_fr (fun i => by rw [eσ48]; exact zq_up_ne (by omega)) (fun i => by rw [eσ48]; exact zq_up_ne (by omega)) (fun i => by rw [eσ48]; exact zq_up_ne (by omega)) (by rw [eσ48]; exact zq_up_ne (by omega)) (by rw [eσ48]; exact zq_up_ne (by omega)) Oσ24
        have Tσ48 : zx_TK σ48 := zx_TK_fr (fun i => by rw [eσ48]; exact zq_up_ne (by omega)) (by rw [eσ48]; exact zq_up_ne (by omega)) Tσ24
        have Wσ48 : zx_W σ48 := zx_W_fr (fun i => by rw [eσ48]; exact zq_up_ne (by omega)) (by rw [eσ48]; exact zq_up_ne (by omega)) (by rw [eσ48]; exact zq_up_ne (by omega)) (by rw [eσ48]; exact zq_up_ne (by omega)) (fun i => by rw [eσ48]; exact zq_up_ne (by omega)) Wσ24
        refine zr_iload (pc := 51) hV dX12_join_51 rfl ?_
        refine zr_if_ne (pc := 53) hV 64 dX12_join_53 (by decide) ⟨by decide, by decide⟩ (fun c14 => ?_) (fun c14 => ?_)
        · exfalso; omega
        · show V 56 [some (ZR 0), some (ZI a), some (ZI c), some (ZI r24), some (ZI 0), none] [] 41 σ48
          refine zr_bipush (pc := 56) hV (-20) dX12_join_56 (by decide) ?_
          refine zr_aload_n (pc := 58) hV dX12_join_58 rfl rfl ?_
          refine zr_getI (pc := 59) hV 15 dX12_join_59 fX12_200 rfl rfl rfl (by decide) ?_
          have t15 := zx_g15 hσ48
          have t16 : σ48 0 15 = σ24 0 15 := by rw [eσ48]; exact zq_up_ne (by omega)
          refine zr_isub (pc := 62) hV dX12_join_62 ?_
          have t17 := zx_g3 hσ48
          have t18 : σ48 0 3 = σ24 0 3 := by rw [eσ48]; exact zq_up_ne (by omega)
          have t19 : σ24 0 3 = σ20 0 3 := hfσ24 _ _ (by omega)
          have t20 : σ20 0 3 = σ 0 3 := by rw [eσ20]; exact zq_up_ne (by omega)
          exact zr_iret (pc := 63) hV dX12_join_63 rfl rfl ⟨_, rfl, (by omega), hσ48, hFσ48, trivial, (show zt_rj σ σ48 a c ((-20) - (σ48 0 15)) ∧ ((∀ o, o ≠ σ 0 3 → σ48 8 o = σ 8 o ∧ σ48 9 o = σ 9 o) ∧ (σ48 0 3 = σ 0 3 + 1 → σ48 8 (σ 0 3) = -1 ∧ σ48 9 (σ 0 3) = -1)) from ⟨⟨(fun h => absurd (by omega) h), fun _ => ⟨by rw [eσ48, zq_up_same], fun _ => ⟨by have q : σ24 0 15 = (zt_z0 (σ 10) (σ 0 14)) := pσ24.2.2.2 (by omega); omega, by rw [eσ48, zq_up_ne (by omega), hfσ24 0 _ (by omega), eσ20, zq_up_ne (by omega)]⟩, fun nd => absurd (dy (by omega)) nd, fun nd => absurd (dy (by omega)) nd⟩⟩, ⟨fun o _ => ⟨by rw [eσ48, zq_up_ne (by omega), hfσ24 8 _ (by omega), eσ20, zq_up_ne (by omega)], by rw [eσ48, zq_up_ne (by omega), hfσ24 9 _ (by omega), eσ20, zq_up_ne (by omega)]⟩, fun h => by exfalso; have z : σ48 0 3 = σ 0 3 := (by rw [eσ48, zq_up_ne (by omega), hfσ24 0 _ (by omega), eσ20, zq_up_ne (by omega)]); omega⟩⟩), Mσ48, Oσ48, Tσ48, Wσ48⟩
      · show V 32 [some (ZR 0), some (ZI a), some (ZI c), some (ZI r24), none, none] [] 41 σ24
        have a24 : σ24 0 15 = (zt_p0 (σ 10) (σ 0 14)) := pσ24.2.2.1 (by omega)
        refine zr_aload_n (pc := 32) hV dX12_join_32 rfl rfl ?_
        refine zr_callVi (pc := 33) hV [] (st := []) (c_X12_next2 (σ := σ24) hσ24 ) dX12_join_33 mX12_203 rfl (by decide) (by decide) (Nat.le_of_ble_eq_true rfl) (Nat.le_refl _) (fun r33 σ33 hr33 pσ33 => ?_)
        obtain ⟨hσ33, hfσ33, pσ33⟩ := pσ33
        have Mσ33 : zx_M σ33 := zx_M_fr (fun i => hfσ33 18 i (by omega)) (hfσ33 0 30 (by omega)) (hfσ33 0 2 (by omega)) (hfσ33 0 3 (by omega)) Mσ24
        have Oσ33 : zx_O σ33 := zx_O_fr (fun i => hfσ33 2 i (by omega)) (fun i => hfσ33 5 i (by omega)) (fun i => hfσ33 6 i (by omega)) (hfσ33 0 2 (by omega)) (hfσ33 0 3 (by omega)) Oσ24
        have Tσ33 : zx_TK σ33 := zx_TK_fr (fun i => hfσ33 7 i (by omega)) (hfσ33 0 3 (by omega)) Tσ24
        have Wσ33 : zx_W σ33 := zx_W_fr (fun i => hfσ33 18 i (by omega)) (hfσ33 0 30 (by omega)) (hfσ33 0 2 (by omega)) (hfσ33 0 3 (by omega)) (fun i => hfσ33 2 i (by omega)) Wσ24
        have hFσ33 : ∀ a i : Int, (¬ (a = 0 ∧ i = 14) ∧ ¬ (a = 0 ∧ i = 15) ∧ ¬ (a = 0 ∧ i = 16) ∧ ¬ (a = 0 ∧ i = 3) ∧ ¬ (a = 0 ∧ i = 30) ∧ ¬ (a = 0 ∧ i = 61) ∧ ¬ (a = 1 ∧ i = (σ 0 3)) ∧ a ≠ 18 ∧ ¬ (a = 2 ∧ 12 * (σ 0 3) ≤ i) ∧ ¬ (a = 3 ∧ i = (σ 0 3)) ∧ ¬ (a = 4 ∧ i = (σ 0 3)) ∧ ¬ (a = 5 ∧ i = (σ 0 3)) ∧ ¬ (a = 6 ∧ 18 * (σ 0 3) ≤ i) ∧ ¬ (a = 7 ∧ i = (σ 0 3)) ∧ a ≠ 8 ∧ a ≠ 9) → σ33 a i = σ a i := fun a i h => (hfσ33 a i h.2.1).trans (hFσ24 a i h)
        have t21 := zx_g14 hσ24
        have t22 : σ24 0 14 = σ20 0 14 := hfσ24 _ _ (by omega)
        have t23 : σ20 0 14 = σ 0 14 := by rw [eσ20]; exact zq_up_ne (by omega)
        have t24 := zx_g15 hσ24
        have t25 := zx_g15 hσ33
        rw [T24, N24, a24] at pσ33
        have zm1 : zt_nx (σ 10) (σ 0 14) (zt_p0 (σ 10) (σ 0 14)) < 0 → zt_nx (σ 10) (σ 0 14) (zt_p0 (σ 10) (σ 0 14)) = -1 := fun h => zt_nx_m1 q2 (by have := zx_g15 hσ24; omega) h
        refine zr_if_ge (pc := 36) hV 43 dX12_join_36 (by decide) (by omega) (fun c26 => ?_) (fun c26 => ?_)
        · show V 43 [some (ZR 0), some (ZI a), some (ZI c), some (ZI r24), none, none] [] 41 σ33
          refine zr_iconst (pc := 43) hV 0 dX12_join_43 rfl ?_
          show V 44 [some (ZR 0), some (ZI a), some (ZI c), some (ZI r24), none, none] [ZI 0] 41 σ33
          refine zr_istore (pc := 44) hV [some (ZR 0), some (ZI a), some (ZI c), some (ZI r24), some (ZI 0), none] dX12_join_44 (by decide) rfl rfl ?_
          refine zr_aload_n (pc := 46) hV dX12_join_46 rfl rfl ?_
          refine zr_iconst (pc := 47) hV 0 dX12_join_47 rfl ?_
          refine zr_putI (pc := 48) hV 14 dX12_join_48 fX12_197 rfl rfl rfl rfl (by decide) (fun σ48 eσ48 => ?_)
          have hσ48 : zx_T σ48 := zx_u14 eσ48 hσ33 (by omega)
          have hFσ48 : ∀ a i : Int, (¬ (a = 0 ∧ i = 14) ∧ ¬ (a = 0 ∧ i = 15) ∧ ¬ (a = 0 ∧ i = 16) ∧ ¬ (a = 0 ∧ i = 3) ∧ ¬ (a = 0 ∧ i = 30) ∧ ¬ (a = 0 ∧ i = 61) ∧ ¬ (a = 1 ∧ i = (σ 0 3)) ∧ a ≠ 18 ∧ ¬ (a = 2 ∧ 12 * (σ 0 3) ≤ i) ∧ ¬ (a = 3 ∧ i = (σ 0 3)) ∧ ¬ (a = 4 ∧ i = (σ 0 3)) ∧ ¬ (a = 5 ∧ i = (σ 0 3)) ∧ ¬ (a = 6 ∧ 18 * (σ 0 3) ≤ i) ∧ ¬ (a = 7 ∧ i = (σ 0 3)) ∧ a ≠ 8 ∧ a ≠ 9) → σ48 a i = σ a i := fun a i h => by rw [eσ48, zq_up_ne h.1]; exact hFσ33 a i h
          have Mσ48 : zx_M σ48 := zx_M_fr (fun i => by rw [eσ48]; exact zq_up_ne (by omega)) (by rw [eσ48]; exact zq_up_ne (by omega)) (by rw [eσ48]; exact zq_up_ne (by omega)) (by rw [eσ48]; exact zq_up_ne (by omega)) Mσ33
          have Oσ48 : zx_O σ48 := zx_O_fr (fun i => by rw [eσ48]; exact zq_up_ne (by omega)) (fun i => by rw [eσ48]; exact zq_up_ne (by omega)) (fun i => by rw [eσ48]; exact zq_up_ne (by omega)) (by rw [eσ48]; exact zq_up_ne (by omega)) (by rw [eσ48]; exact zq_up_ne (by omega)) Oσ33
          have Tσ48 : zx_TK σ48 := zx_TK_fr (fun i => by rw [eσ48]; exact zq_up_ne (by omega)) (by rw [eσ48]; exact zq_up_ne (by omega)) Tσ33
          have Wσ48 : zx_W σ48 := zx_W_fr (fun i => by rw [eσ48]; exact zq_up_ne (by omega)) (by rw [eσ48]; exact zq_up_ne (by omega)) (by rw [eσ48]; exact zq_up_ne (by omega)) (by rw [eσ48]; exact zq_up_ne (by omega)) (fun i => by rw [eσ48]; exact zq_up_ne (by omega)) Wσ33
          refine zr_iload (pc := 51) hV dX12_join_51 rfl ?_
          refine zr_if_ne (pc := 53) hV 64 dX12_join_53 (by decide) ⟨by decide, by decide⟩ (fun c27 => ?_) (fun c27 => ?_)
          · exfalso; omega
          · show V 56 [some (ZR 0), some (ZI a), some (ZI c), some (ZI r24), some (ZI 0), none] [] 41 σ48
            refine zr_bipush (pc := 56) hV (-20) dX12_join_56 (by decide) ?_
            refine zr_aload_n (pc := 58) hV dX12_join_58 rfl rfl ?_
            refine zr_getI (pc := 59) hV 15 dX12_join_59 fX12_200 rfl rfl rfl (by decide) ?_
            have t28 := zx_g15 hσ48
            have t29 : σ48 0 15 = σ33 0 15 := by rw [eσ48]; exact zq_up_ne (by omega)
            refine zr_isub (pc := 62) hV dX12_join_62 ?_
            have t30 := zx_g3 hσ48
            have t31 : σ48 0 3 = σ33 0 3 := by rw [eσ48]; exact zq_up_ne (by omega)
            have t32 : σ33 0 3 = σ24 0 3 := hfσ33 _ _ (by omega)
            have t33 : σ24 0 3 = σ20 0 3 := hfσ24 _ _ (by omega)
            have t34 : σ20 0 3 = σ 0 3 := by rw [eσ20]; exact zq_up_ne (by omega)
            exact zr_iret (pc := 63) hV dX12_join_63 rfl rfl ⟨_, rfl, (by omega), hσ48, hFσ48, trivial, (show zt_rj σ σ48 a c ((-20) - (σ48 0 15)) ∧ ((∀ o, o ≠ σ 0 3 → σ48 8 o = σ 8 o ∧ σ48 9 o = σ 9 o) ∧ (σ48 0 3 = σ 0 3 + 1 → σ48 8 (σ 0 3) = -1 ∧ σ48 9 (σ 0 3) = -1)) from ⟨⟨(fun h => absurd (by omega) h), fun _ => ⟨by rw [eσ48, zq_up_same], fun d => absurd d (dn (by omega)), fun _ _ => ⟨by omega, by rw [eσ48, zq_up_ne (by omega), hfσ33 0 _ (by omega), hfσ24 0 _ (by omega), eσ20, zq_up_ne (by omega)]⟩, fun _ nx => absurd nx (by omega)⟩⟩, ⟨fun o _ => ⟨by rw [eσ48, zq_up_ne (by omega), hfσ33 8 _ (by omega), hfσ24 8 _ (by omega), eσ20, zq_up_ne (by omega)], by rw [eσ48, zq_up_ne (by omega), hfσ33 9 _ (by omega), hfσ24 9 _ (by omega), eσ20, zq_up_ne (by omega)]⟩, fun h => by exfalso; have z : σ48 0 3 = σ 0 3 := (by rw [eσ48, zq_up_ne (by omega), hfσ33 0 _ (by omega), hfσ24 0 _ (by omega), eσ20, zq_up_ne (by omega)]); omega⟩⟩), Mσ48, Oσ48, Tσ48, Wσ48⟩
        · show V 39 [some (ZR 0), some (ZI a), some (ZI c), some (ZI r24), none, none] [] 41 σ33
          refine zr_iconst (pc := 39) hV 1 dX12_join_39 rfl ?_
          refine zr_goto (pc := 40) hV 44 dX12_join_40 (by decide) ?_
          show V 44 [some (ZR 0), some (ZI a), some (ZI c), some (ZI r24), none, none] [ZI 1] 41 σ33
          refine zr_istore (pc := 44) hV [some (ZR 0), some (ZI a), some (ZI c), some (ZI r24), some (ZI 1), none] dX12_join_44 (by decide) rfl rfl ?_
          refine zr_aload_n (pc := 46) hV dX12_join_46 rfl rfl ?_
          refine zr_iconst (pc := 47) hV 0 dX12_join_47 rfl ?_
          refine zr_putI (pc := 48) hV 14 dX12_join_48 fX12_197 rfl rfl rfl rfl (by decide) (fun σ48 eσ48 => ?_)
          have hσ48 : zx_T σ48 := zx_u14 eσ48 hσ33 (by omega)
          have hFσ48 : ∀ a i : Int, (¬ (a = 0 ∧ i = 14) ∧ ¬ (a = 0 ∧ i = 15) ∧ ¬ (a = 0 ∧ i = 16) ∧ ¬ (a = 0 ∧ i = 3) ∧ ¬ (a = 0 ∧ i = 30) ∧ ¬ (a = 0 ∧ i = 61) ∧ ¬ (a = 1 ∧ i = (σ 0 3)) ∧ a ≠ 18 ∧ ¬ (a = 2 ∧ 12 * (σ 0 3) ≤ i) ∧ ¬ (a = 3 ∧ i = (σ 0 3)) ∧ ¬ (a = 4 ∧ i = (σ 0 3)) ∧ ¬ (a = 5 ∧ i = (σ 0 3)) ∧ ¬ (a = 6 ∧ 18 * (σ 0 3) ≤ i) ∧ ¬ (a = 7 ∧ i = (σ 0 3)) ∧ a ≠ 8 ∧ a ≠ 9) → σ48 a i = σ a i := fun a i h => by rw [eσ48, zq_up_ne h.1]; exact hFσ33 a i h
          have Mσ48 : zx_M σ48 := zx_M_fr (fun i => by rw [eσ48]; exact zq_up_ne (by omega)) (by rw [eσ48]; exact zq_up_ne (by omega)) (by rw [eσ48]; exact zq_up_ne (by omega)) (by rw [eσ48]; exact zq_up_ne (by omega)) Mσ33
          have Oσ48 : zx_O σ48 := zx_O_fr (fun i => by rw [eσ48]; exact zq_up_ne (by omega)) (fun i => by rw [eσ48]; exact zq_up_ne (by omega)) (fun i => by rw [eσ48]; exact zq_up_ne (by omega)) (by rw [eσ48]; exact zq_up_ne (by omega)) (by rw [eσ48]; exact zq_up_ne (by omega)) Oσ33
          have Tσ48 : zx_TK σ48 := zx_TK_fr (fun i => by rw [eσ48]; exact zq_up_ne (by omega)) (by rw [eσ48]; exact zq_up_ne (by omega)) Tσ33
          have Wσ48 : zx_W σ48 := zx_W_fr (fun i => by rw [eσ48]; exact zq_up_ne (by omega)) (by rw [eσ48]; exact zq_up_ne (by omega)) (by rw [eσ48]; exact zq_up_ne (by omega)) (by rw [eσ48]; exact zq_up_ne (by omega)) (fun i => by rw [eσ48]; exact zq_up_ne (by omega)) Wσ33
          refine zr_iload (pc := 51) hV dX12_join_51 rfl ?_
          refine zr_if_ne (pc := 53) hV 64 dX12_join_53 (by decide) ⟨by decide, by decide⟩ (fun c35 => ?_) (fun c35 => ?_)
          · show V 64 [some (ZR 0), some (ZI a), some (ZI c), some (ZI r24), some (ZI 1), none] [] 41 σ48
            refine zr_aload_n (pc := 64) hV dX12_join_64 rfl rfl ?_
            refine zr_iload_n (pc := 65) hV dX12_join_65 rfl rfl ?_
            refine zr_iload_n (pc := 66) hV dX12_join_66 rfl rfl ?_
            have t36 := zx_g3 hσ48
            have t37 : σ48 0 3 = σ33 0 3 := by rw [eσ48]; exact zq_up_ne (by omega)
            have t38 : σ33 0 3 = σ24 0 3 := hfσ33 _ _ (by omega)
            have t39 : σ24 0 3 = σ20 0 3 := hfσ24 _ _ (by omega)
            have t40 : σ20 0 3 = σ 0 3 := by rw [eσ20]; exact zq_up_ne (by omega)
            have t41 := zx_g3 hσ48
            have t42 : σ48 0 3 = σ33 0 3 := by rw [eσ48]; exact zq_up_ne (by omega)
            have t43 : σ33 0 3 = σ24 0 3 := hfσ33 _ _ (by omega)
            have t44 : σ24 0 3 = σ20 0 3 := hfσ24 _ _ (by omega)
            have t45 : σ20 0 3 = σ 0 3 := by rw [eσ20]; exact zq_up_ne (by omega)
            refine zr_callVi (pc := 67) hV [ZI a, ZI c] (st := []) (c_X12_roomFor3 (σ := σ48) hσ48 a c (by omega) (by omega) Mσ48 Oσ48 Wσ48) dX12_join_67 mX12_473 rfl (by decide) (by decide) (Nat.le_of_ble_eq_true rfl) (Nat.le_refl _) (fun r67 σ67 hr67 pσ67 => ?_)
            obtain ⟨hσ67, hfσ67, pσ67, wσ67, Mσ67, Oσ67, Wσ67⟩ := pσ67
            have Tσ67 : zx_TK σ67 := zx_TK_fr (fun i => hfσ67 7 i (by omega)) (hfσ67 0 3 (by omega)) Tσ48
            have hFσ67 : ∀ a i : Int, (¬ (a = 0 ∧ i = 14) ∧ ¬ (a = 0 ∧ i = 15) ∧ ¬ (a = 0 ∧ i = 16) ∧ ¬ (a = 0 ∧ i = 3) ∧ ¬ (a = 0 ∧ i = 30) ∧ ¬ (a = 0 ∧ i = 61) ∧ ¬ (a = 1 ∧ i = (σ 0 3)) ∧ a ≠ 18 ∧ ¬ (a = 2 ∧ 12 * (σ 0 3) ≤ i) ∧ ¬ (a = 3 ∧ i = (σ 0 3)) ∧ ¬ (a = 4 ∧ i = (σ 0 3)) ∧ ¬ (a = 5 ∧ i = (σ 0 3)) ∧ ¬ (a = 6 ∧ 18 * (σ 0 3) ≤ i) ∧ ¬ (a = 7 ∧ i = (σ 0 3)) ∧ a ≠ 8 ∧ a ≠ 9) → σ67 a i = σ a i := fun a i h => (hfσ67 a i ⟨h.2.2.2.2.1, h.2.2.2.2.2.1, h.2.2.2.2.2.2.2.1⟩).trans (hFσ48 a i h)
            have t46 := zx_g1 hσ48
            have t47 : σ48 0 1 = σ33 0 1 := by rw [eσ48]; exact zq_up_ne (by omega)
            have t48 : σ33 0 1 = σ24 0 1 := hfσ33 _ _ (by omega)
            have t49 : σ24 0 1 = σ20 0 1 := hfσ24 _ _ (by omega)
            have t50 : σ20 0 1 = σ 0 1 := by rw [eσ20]; exact zq_up_ne (by omega)
            have t51 := zx_g2 hσ48
            have t52 : σ48 0 2 = σ33 0 2 := by rw [eσ48]; exact zq_up_ne (by omega)
            have t53 : σ33 0 2 = σ24 0 2 := hfσ33 _ _ (by omega)
            have t54 : σ24 0 2 = σ20 0 2 := hfσ24 _ _ (by omega)
            have t55 : σ20 0 2 = σ 0 2 := by rw [eσ20]; exact zq_up_ne (by omega)
            refine zr_istore (pc := 70) hV [some (ZR 0), some (ZI a), some (ZI c), some (ZI r24), some (ZI 1), some (ZI r67)] dX12_join_70 (by decide) rfl rfl ?_
            have o67 : σ67 0 3 = σ 0 3 := by rw [hfσ67 0 3 (by omega), eσ48, zq_up_ne (by omega), hfσ33 0 3 (by omega), hfσ24 0 3 (by omega), eσ20, zq_up_ne (by omega)]
            refine zr_iload (pc := 72) hV dX12_join_72 rfl ?_
            refine zr_if_ge (pc := 74) hV 80 dX12_join_74 (by decide) (by omega) (fun c56 => ?_) (fun c56 => ?_)
            · show V 80 [some (ZR 0), some (ZI a), some (ZI c), some (ZI r24), some (ZI 1), some (ZI r67)] [] 41 σ67
              have u67 : σ48 5 a + σ48 5 c ≤ 3 ∧ σ48 7 a + σ48 7 c ≤ 10 ∧ σ67 0 61 = zx_rb (zq_or (zx_fm σ48 a 4) (zx_fm σ48 c 4)) (if 0 < zx_cnt σ48 a 3 (σ48 0 2) then zx_cnt σ48 a 3 (σ48 0 2) else zx_cnt σ48 c 3 (σ48 0 2)) (σ48 0 1) ∧ 0 ≤ σ67 0 61 ∧ σ67 0 61 < σ48 0 2 := wσ67.2 (by omega)
              have e5 := fun i => hfσ67 5 i (by omega)
              have e7 := fun i => hfσ67 7 i (by omega)
              have e2 := fun i => hfσ67 2 i (by omega)
              have eb := hfσ67 0 2 (by omega)
              have ek := hfσ67 0 1 (by omega)
              have eo := hfσ67 0 3 (by omega)
              have rb67 : σ67 0 61 = zx_rb (zq_or (zx_fm σ67 a 4) (zx_fm σ67 c 4)) (if 0 < zx_cnt σ67 a 3 (σ67 0 2) then zx_cnt σ67 a 3 (σ67 0 2) else zx_cnt σ67 c 3 (σ67 0 2)) (σ67 0 1) := by rw [zx_fm_fr e2 eb, zx_fm_fr e2 eb, zx_cnt_fr e2, zx_cnt_fr e2, eb, ek]; exact u67.2.2.1
              refine zr_aload_n (pc := 80) hV dX12_join_80 rfl rfl ?_
              refine zr_getI (pc := 81) hV 3 dX12_join_81 fX12_150 rfl rfl rfl (by decide) ?_
              have t57 := zx_g3 hσ67
              have t58 : σ67 0 3 = σ48 0 3 := hfσ67 _ _ (by omega)
              have t59 : σ48 0 3 = σ33 0 3 := by rw [eσ48]; exact zq_up_ne (by omega)
              have t60 : σ33 0 3 = σ24 0 3 := hfσ33 _ _ (by omega)
              have t61 : σ24 0 3 = σ20 0 3 := hfσ24 _ _ (by omega)
              have t62 : σ20 0 3 = σ 0 3 := by rw [eσ20]; exact zq_up_ne (by omega)
              refine zr_bipush (pc := 84) hV 20 dX12_join_84 (by decide) ?_
              refine zr_icmp_ne (pc := 86) hV 92 dX12_join_86 (by decide) (by omega) ⟨by decide, by decide⟩ (fun c63 => ?_) (fun c63 => ?_)
              · show V 92 [some (ZR 0), some (ZI a), some (ZI c), some (ZI r24), some (ZI 1), some (ZI r67)] [] 41 σ67
                refine zr_aload_n (pc := 92) hV dX12_join_92 rfl rfl ?_
                refine zr_iload_n (pc := 93) hV dX12_join_93 rfl rfl ?_
                refine zr_iload_n (pc := 94) hV dX12_join_94 rfl rfl ?_
                refine zr_iload (pc := 95) hV dX12_join_95 rfl ?_
                refine zr_iload_n (pc := 97) hV dX12_join_97 rfl rfl ?_
                have t64 := zx_g3 hσ67
                have t65 : σ67 0 3 = σ48 0 3 := hfσ67 _ _ (by omega)
                have t66 : σ48 0 3 = σ33 0 3 := by rw [eσ48]; exact zq_up_ne (by omega)
                have t67 : σ33 0 3 = σ24 0 3 := hfσ33 _ _ (by omega)
                have t68 : σ24 0 3 = σ20 0 3 := hfσ24 _ _ (by omega)
                have t69 : σ20 0 3 = σ 0 3 := by rw [eσ20]; exact zq_up_ne (by omega)
                have t70 := zx_g3 hσ67
                have t71 : σ67 0 3 = σ48 0 3 := hfσ67 _ _ (by omega)
                have t72 : σ48 0 3 = σ33 0 3 := by rw [eσ48]; exact zq_up_ne (by omega)
                have t73 : σ33 0 3 = σ24 0 3 := hfσ33 _ _ (by omega)
                have t74 : σ24 0 3 = σ20 0 3 := hfσ24 _ _ (by omega)
                have t75 : σ20 0 3 = σ 0 3 := by rw [eσ20]; exact zq_up_ne (by omega)
                have t76 := zx_g3 hσ67
                have t77 : σ67 0 3 = σ48 0 3 := hfσ67 _ _ (by omega)
                have t78 : σ48 0 3 = σ33 0 3 := by rw [eσ48]; exact zq_up_ne (by omega)
                have t79 : σ33 0 3 = σ24 0 3 := hfσ33 _ _ (by omega)
                have t80 : σ24 0 3 = σ20 0 3 := hfσ24 _ _ (by omega)
                have t81 : σ20 0 3 = σ 0 3 := by rw [eσ20]; exact zq_up_ne (by omega)
                have t82 := zx_g1 hσ67
                have t83 : σ67 0 1 = σ48 0 1 := hfσ67 _ _ (by omega)
                have t84 : σ48 0 1 = σ33 0 1 := by rw [eσ48]; exact zq_up_ne (by omega)
                have t85 : σ33 0 1 = σ24 0 1 := hfσ33 _ _ (by omega)
                have t86 : σ24 0 1 = σ20 0 1 := hfσ24 _ _ (by omega)
                have t87 : σ20 0 1 = σ 0 1 := by rw [eσ20]; exact zq_up_ne (by omega)
                have t88 := zx_g2 hσ67
                have t89 : σ67 0 2 = σ48 0 2 := hfσ67 _ _ (by omega)
                have t90 : σ48 0 2 = σ33 0 2 := by rw [eσ48]; exact zq_up_ne (by omega)
                have t91 : σ33 0 2 = σ24 0 2 := hfσ33 _ _ (by omega)
                have t92 : σ24 0 2 = σ20 0 2 := hfσ24 _ _ (by omega)
                have t93 : σ20 0 2 = σ 0 2 := by rw [eσ20]; exact zq_up_ne (by omega)
                have t94 := zx_g61 hσ67
                have t95 := zx_g2 hσ67
                have t96 : σ67 0 2 = σ48 0 2 := hfσ67 _ _ (by omega)
                have t97 : σ48 0 2 = σ33 0 2 := by rw [eσ48]; exact zq_up_ne (by omega)
                have t98 : σ33 0 2 = σ24 0 2 := hfσ33 _ _ (by omega)
                have t99 : σ24 0 2 = σ20 0 2 := hfσ24 _ _ (by omega)
                have t100 : σ20 0 2 = σ 0 2 := by rw [eσ20]; exact zq_up_ne (by omega)
                have t101 := zx_g61 hσ67
                refine zr_callVv (pc := 98) hV [ZI a, ZI c, ZI r67, ZI r24] (st := []) (c_X12_layJoined2 (σ := σ67) hσ67 a c r67 r24 (by omega) (by omega) (by omega) (by omega) (by omega) (by rw [e5 a, e5 c]; exact u67.1) (by rw [e7 a, e7 c]; exact u67.2.1) (Tσ67 a (by omega) (by omega)) (Tσ67 c (by omega) (by omega)) (Oσ67 a (by omega) (by omega)).1 (Oσ67 c (by omega) (by omega)).1 (Oσ67 a (by omega) (by omega)).2 (Oσ67 c (by omega) (by omega)).2 rb67 ⟨u67.2.2.2.1, by have := u67.2.2.2.2; omega⟩) dX12_join_98 mX12_476 rfl (by decide) (by decide) (Nat.le_of_ble_eq_true rfl) (Nat.le_refl _) (fun σ98 pσ98 => ?_)
                obtain ⟨hσ98, hfσ98, pσ98, wσ98⟩ := pσ98
                have Mσ98 : zx_M σ98 := zx_M_fr (fun i => hfσ98 18 i (by omega)) (hfσ98 0 30 (by omega)) (hfσ98 0 2 (by omega)) (hfσ98 0 3 (by omega)) Mσ67
                have Oσ98 : zx_O σ98 := zx_O_old hσ67 (hfσ98 0 2 (by omega)) (hfσ98 0 3 (by omega)) (fun i h => hfσ98 2 i (by omega)) (fun i h => hfσ98 5 i (by omega)) (fun i h => hfσ98 6 i (by omega)) Oσ67
                have Tσ98 : zx_TK σ98 := zx_TK_old (hfσ98 0 3 (by omega)) (fun i h => hfσ98 7 i (by omega)) Tσ67
                have Wσ98 : zx_W σ98 := zx_W_old (fun i => hfσ98 18 i (by omega)) (hfσ98 0 30 (by omega)) (hfσ98 0 2 (by omega)) (hfσ98 0 3 (by omega)) (by have := zx_g2 hσ67; omega) (fun i h => hfσ98 2 i (by omega)) Wσ67
                have hFσ98 : ∀ a i : Int, (¬ (a = 0 ∧ i = 14) ∧ ¬ (a = 0 ∧ i = 15) ∧ ¬ (a = 0 ∧ i = 16) ∧ ¬ (a = 0 ∧ i = 3) ∧ ¬ (a = 0 ∧ i = 30) ∧ ¬ (a = 0 ∧ i = 61) ∧ ¬ (a = 1 ∧ i = (σ 0 3)) ∧ a ≠ 18 ∧ ¬ (a = 2 ∧ 12 * (σ 0 3) ≤ i) ∧ ¬ (a = 3 ∧ i = (σ 0 3)) ∧ ¬ (a = 4 ∧ i = (σ 0 3)) ∧ ¬ (a = 5 ∧ i = (σ 0 3)) ∧ ¬ (a = 6 ∧ 18 * (σ 0 3) ≤ i) ∧ ¬ (a = 7 ∧ i = (σ 0 3)) ∧ a ≠ 8 ∧ a ≠ 9) → σ98 a i = σ a i := fun a i h => (hfσ98 a i ⟨(fun q => h.2.2.2.2.2.2.1 ⟨q.1, by omega⟩), (fun q => h.2.2.2.2.2.2.2.2.1 ⟨q.1, by omega⟩), (fun q => h.2.2.2.2.2.2.2.2.2.1 ⟨q.1, by omega⟩), (fun q => h.2.2.2.2.2.2.2.2.2.2.1 ⟨q.1, by omega⟩), (fun q => h.2.2.2.2.2.2.2.2.2.2.2.1 ⟨q.1, by omega⟩), (fun q => h.2.2.2.2.2.2.2.2.2.2.2.2.1 ⟨q.1, by omega⟩), (fun q => h.2.2.2.2.2.2.2.2.2.2.2.2.2.1 ⟨q.1, by omega⟩)⟩).trans (hFσ67 a i h)
                have t102 := zx_g3 hσ67
                have t103 : σ67 0 3 = σ48 0 3 := hfσ67 _ _ (by omega)
                have t104 : σ48 0 3 = σ33 0 3 := by rw [eσ48]; exact zq_up_ne (by omega)
                have t105 : σ33 0 3 = σ24 0 3 := hfσ33 _ _ (by omega)
                have t106 : σ24 0 3 = σ20 0 3 := hfσ24 _ _ (by omega)
                have t107 : σ20 0 3 = σ 0 3 := by rw [eσ20]; exact zq_up_ne (by omega)
                have o98n : σ98 0 3 = σ 0 3 := by rw [hfσ98 0 3 (by omega)]; exact o67
                refine zr_aload_n (pc := 101) hV dX12_join_101 rfl rfl ?_
                have w3 : σ98 0 3 = σ67 0 3 := hfσ98 0 3 (by omega)
                have t108 := zx_g3 hσ98
                have t109 : σ98 0 3 = σ67 0 3 := hfσ98 _ _ (by omega)
                have t110 : σ67 0 3 = σ48 0 3 := hfσ67 _ _ (by omega)
                have t111 : σ48 0 3 = σ33 0 3 := by rw [eσ48]; exact zq_up_ne (by omega)
                have t112 : σ33 0 3 = σ24 0 3 := hfσ33 _ _ (by omega)
                have t113 : σ24 0 3 = σ20 0 3 := hfσ24 _ _ (by omega)
                have t114 : σ20 0 3 = σ 0 3 := by rw [eσ20]; exact zq_up_ne (by omega)
                have t115 := zx_g3 hσ98
                have t116 : σ98 0 3 = σ67 0 3 := hfσ98 _ _ (by omega)
                have t117 : σ67 0 3 = σ48 0 3 := hfσ67 _ _ (by omega)
                have t118 : σ48 0 3 = σ33 0 3 := by rw [eσ48]; exact zq_up_ne (by omega)
                have t119 : σ33 0 3 = σ24 0 3 := hfσ33 _ _ (by omega)
                have t120 : σ24 0 3 = σ20 0 3 := hfσ24 _ _ (by omega)
                have t121 : σ20 0 3 = σ 0 3 := by rw [eσ20]; exact zq_up_ne (by omega)
                have t122 := zx_g3 hσ98
                have t123 : σ98 0 3 = σ67 0 3 := hfσ98 _ _ (by omega)
                have t124 : σ67 0 3 = σ48 0 3 := hfσ67 _ _ (by omega)
                have t125 : σ48 0 3 = σ33 0 3 := by rw [eσ48]; exact zq_up_ne (by omega)
                have t126 : σ33 0 3 = σ24 0 3 := hfσ33 _ _ (by omega)
                have t127 : σ24 0 3 = σ20 0 3 := hfσ24 _ _ (by omega)
                have t128 : σ20 0 3 = σ 0 3 := by rw [eσ20]; exact zq_up_ne (by omega)
                refine zr_callVi (pc := 102) hV [] (st := []) (c_X12_addOrder4 (σ := σ98) hσ98 (by rw [w3]; exact pσ98.1) (by rw [w3]; exact pσ98.2.1) (by rw [w3]; exact pσ98.2.2) Mσ98 Oσ98 Tσ98 Wσ98) dX12_join_102 mX12_268 rfl (by decide) (by decide) (Nat.le_of_ble_eq_true rfl) (Nat.le_refl _) (fun r102 σ102 hr102 pσ102 => ?_)
                obtain ⟨hσ102, hfσ102, pσ102, wσ102, Mσ102, Oσ102, Tσ102, Wσ102⟩ := pσ102
                have hFσ102 : ∀ a i : Int, (¬ (a = 0 ∧ i = 14) ∧ ¬ (a = 0 ∧ i = 15) ∧ ¬ (a = 0 ∧ i = 16) ∧ ¬ (a = 0 ∧ i = 3) ∧ ¬ (a = 0 ∧ i = 30) ∧ ¬ (a = 0 ∧ i = 61) ∧ ¬ (a = 1 ∧ i = (σ 0 3)) ∧ a ≠ 18 ∧ ¬ (a = 2 ∧ 12 * (σ 0 3) ≤ i) ∧ ¬ (a = 3 ∧ i = (σ 0 3)) ∧ ¬ (a = 4 ∧ i = (σ 0 3)) ∧ ¬ (a = 5 ∧ i = (σ 0 3)) ∧ ¬ (a = 6 ∧ 18 * (σ 0 3) ≤ i) ∧ ¬ (a = 7 ∧ i = (σ 0 3)) ∧ a ≠ 8 ∧ a ≠ 9) → σ102 a i = σ a i := fun a i h => (hfσ102 a i ⟨h.2.2.2.1, h.2.2.2.2.1, h.2.2.2.2.2.2.2.2.2.2.2.2.2.2.1, h.2.2.2.2.2.2.2.2.2.2.2.2.2.2.2⟩).trans (hFσ98 a i h)
                have t129 := zx_g3 hσ98
                have t130 : σ98 0 3 = σ67 0 3 := hfσ98 _ _ (by omega)
                have t131 : σ67 0 3 = σ48 0 3 := hfσ67 _ _ (by omega)
                have t132 : σ48 0 3 = σ33 0 3 := by rw [eσ48]; exact zq_up_ne (by omega)
                have t133 : σ33 0 3 = σ24 0 3 := hfσ33 _ _ (by omega)
                have t134 : σ24 0 3 = σ20 0 3 := hfσ24 _ _ (by omega)
                have t135 : σ20 0 3 = σ 0 3 := by rw [eσ20]; exact zq_up_ne (by omega)
                have t136 := zx_g3 hσ102
                have t137 := zx_g3 hσ102
                exact zr_iret (pc := 105) hV dX12_join_105 rfl rfl ⟨_, rfl, (by omega), hσ102, hFσ102, trivial, (show zt_rj σ σ102 a c r102 ∧ ((∀ o, o ≠ σ 0 3 → σ102 8 o = σ 8 o ∧ σ102 9 o = σ 9 o) ∧ (σ102 0 3 = σ 0 3 + 1 → σ102 8 (σ 0 3) = -1 ∧ σ102 9 (σ 0 3) = -1)) from ⟨⟨(fun h => absurd (by omega) h), fun _ => ⟨by rw [hfσ102 0 14 (by omega), hfσ98 0 14 (by omega), hfσ67 0 14 (by omega), eσ48, zq_up_same], fun d => absurd d (dn (by omega)), fun _ nx => absurd (zm1 (by omega)) nx, fun _ _ => ⟨r67, zt_rr_fr (fun i => by rw [eσ48, zq_up_ne (by omega), hfσ33 2 _ (by omega), hfσ24 2 _ (by omega), eσ20, zq_up_ne (by omega)]) (fun i => by rw [eσ48, zq_up_ne (by omega), hfσ33 3 _ (by omega), hfσ24 3 _ (by omega), eσ20, zq_up_ne (by omega)]) (fun i => by rw [eσ48, zq_up_ne (by omega), hfσ33 5 _ (by omega), hfσ24 5 _ (by omega), eσ20, zq_up_ne (by omega)]) (fun i => by rw [eσ48, zq_up_ne (by omega), hfσ33 6 _ (by omega), hfσ24 6 _ (by omega), eσ20, zq_up_ne (by omega)]) (fun i => by rw [eσ48, zq_up_ne (by omega), hfσ33 7 _ (by omega), hfσ24 7 _ (by omega), eσ20, zq_up_ne (by omega)]) (by rw [eσ48, zq_up_ne (by omega), hfσ33 0 _ (by omega), hfσ24 0 _ (by omega), eσ20, zq_up_ne (by omega)]) (by rw [eσ48, zq_up_ne (by omega), hfσ33 0 _ (by omega), hfσ24 0 _ (by omega), eσ20, zq_up_ne (by omega)]) (by rw [eσ48, zq_up_ne (by omega), hfσ33 0 _ (by omega), hfσ24 0 _ (by omega), eσ20, zq_up_ne (by omega)]) (show zt_rr σ48 a c r67 from wσ67.1), fun h => absurd h (by omega), fun _ => ⟨fun h => absurd h (by omega), fun _ => ⟨by omega, by omega, by have q := wσ98; rw [show r24 = (zt_nb (σ 10) (zt_z0 (σ 10) (σ 0 14)) (zt_n0 (σ 10) (σ 0 14))) from (wσ24.1 (by omega)).1] at q; exact zt_lj_fr (fun i => by rw [hfσ67 2 _ (by omega), eσ48, zq_up_ne (by omega), hfσ33 2 _ (by omega), hfσ24 2 _ (by omega), eσ20, zq_up_ne (by omega)]) (fun i => by rw [hfσ67 5 _ (by omega), eσ48, zq_up_ne (by omega), hfσ33 5 _ (by omega), hfσ24 5 _ (by omega), eσ20, zq_up_ne (by omega)]) (fun i => by rw [hfσ67 6 _ (by omega), eσ48, zq_up_ne (by omega), hfσ33 6 _ (by omega), hfσ24 6 _ (by omega), eσ20, zq_up_ne (by omega)]) (fun i => by rw [hfσ67 7 _ (by omega), eσ48, zq_up_ne (by omega), hfσ33 7 _ (by omega), hfσ24 7 _ (by omega), eσ20, zq_up_ne (by omega)]) (by rw [hfσ67 0 _ (by omega), eσ48, zq_up_ne (by omega), hfσ33 0 _ (by omega), hfσ24 0 _ (by omega), eσ20, zq_up_ne (by omega)]) (by rw [hfσ67 0 _ (by omega), eσ48, zq_up_ne (by omega), hfσ33 0 _ (by omega), hfσ24 0 _ (by omega), eσ20, zq_up_ne (by omega)]) (by rw [hfσ67 0 _ (by omega), eσ48, zq_up_ne (by omega), hfσ33 0 _ (by omega), hfσ24 0 _ (by omega), eσ20, zq_up_ne (by omega)]) (fun i => hfσ102 1 i (by omega)) (fun i => hfσ102 2 i (by omega)) (fun i => hfσ102 3 i (by omega)) (fun i => hfσ102 4 i (by omega)) (fun i => hfσ102 5 i (by omega)) (fun i => hfσ102 6 i (by omega)) (fun i => hfσ102 7 i (by omega)) q⟩⟩⟩⟩⟩, (by have w := wσ102; rw [o98n] at w; exact ⟨fun o ho => ⟨by rw [(w.1 o ho).1, hfσ98 8 _ (by omega), hfσ67 8 _ (by omega), eσ48, zq_up_ne (by omega), hfσ33 8 _ (by omega), hfσ24 8 _ (by omega), eσ20, zq_up_ne (by omega)], by rw [(w.1 o ho).2, hfσ98 9 _ (by omega), hfσ67 9 _ (by omega), eσ48, zq_up_ne (by omega), hfσ33 9 _ (by omega), hfσ24 9 _ (by omega), eσ20, zq_up_ne (by omega)]⟩, fun h => w.2 h⟩)⟩), Mσ102, Oσ102, Tσ102, Wσ102⟩
              · show V 89 [some (ZR 0), some (ZI a), some (ZI c), some (ZI r24), some (ZI 1), some (ZI r67)] [] 41 σ67
                refine zr_bipush (pc := 89) hV (-3) dX12_join_89 (by decide) ?_
                have t138 := zx_g3 hσ67
                have t139 : σ67 0 3 = σ48 0 3 := hfσ67 _ _ (by omega)
                have t140 : σ48 0 3 = σ33 0 3 := by rw [eσ48]; exact zq_up_ne (by omega)
                have t141 : σ33 0 3 = σ24 0 3 := hfσ33 _ _ (by omega)
                have t142 : σ24 0 3 = σ20 0 3 := hfσ24 _ _ (by omega)
                have t143 : σ20 0 3 = σ 0 3 := by rw [eσ20]; exact zq_up_ne (by omega)
                exact zr_iret (pc := 91) hV dX12_join_91 rfl rfl ⟨_, rfl, ⟨by decide, by decide⟩, hσ67, hFσ67, trivial, (show zt_rj σ σ67 a c ((-3) : Int) ∧ ((∀ o, o ≠ σ 0 3 → σ67 8 o = σ 8 o ∧ σ67 9 o = σ 9 o) ∧ (σ67 0 3 = σ 0 3 + 1 → σ67 8 (σ 0 3) = -1 ∧ σ67 9 (σ 0 3) = -1)) from ⟨⟨(fun h => absurd (by omega) h), fun _ => ⟨by rw [hfσ67 0 14 (by omega), eσ48, zq_up_same], fun d => absurd d (dn (by omega)), fun _ nx => absurd (zm1 (by omega)) nx, fun _ _ => ⟨r67, zt_rr_fr (fun i => by rw [eσ48, zq_up_ne (by omega), hfσ33 2 _ (by omega), hfσ24 2 _ (by omega), eσ20, zq_up_ne (by omega)]) (fun i => by rw [eσ48, zq_up_ne (by omega), hfσ33 3 _ (by omega), hfσ24 3 _ (by omega), eσ20, zq_up_ne (by omega)]) (fun i => by rw [eσ48, zq_up_ne (by omega), hfσ33 5 _ (by omega), hfσ24 5 _ (by omega), eσ20, zq_up_ne (by omega)]) (fun i => by rw [eσ48, zq_up_ne (by omega), hfσ33 6 _ (by omega), hfσ24 6 _ (by omega), eσ20, zq_up_ne (by omega)]) (fun i => by rw [eσ48, zq_up_ne (by omega), hfσ33 7 _ (by omega), hfσ24 7 _ (by omega), eσ20, zq_up_ne (by omega)]) (by rw [eσ48, zq_up_ne (by omega), hfσ33 0 _ (by omega), hfσ24 0 _ (by omega), eσ20, zq_up_ne (by omega)]) (by rw [eσ48, zq_up_ne (by omega), hfσ33 0 _ (by omega), hfσ24 0 _ (by omega), eσ20, zq_up_ne (by omega)]) (by rw [eσ48, zq_up_ne (by omega), hfσ33 0 _ (by omega), hfσ24 0 _ (by omega), eσ20, zq_up_ne (by omega)]) (show zt_rr σ48 a c r67 from wσ67.1), fun h => absurd h (by omega), fun _ => ⟨fun _ => ⟨by omega, o67⟩, fun h => absurd (by omega) h⟩⟩⟩⟩, ⟨fun o _ => ⟨by rw [hfσ67 8 _ (by omega), eσ48, zq_up_ne (by omega), hfσ33 8 _ (by omega), hfσ24 8 _ (by omega), eσ20, zq_up_ne (by omega)], by rw [hfσ67 9 _ (by omega), eσ48, zq_up_ne (by omega), hfσ33 9 _ (by omega), hfσ24 9 _ (by omega), eσ20, zq_up_ne (by omega)]⟩, fun h => by exfalso; have z : σ67 0 3 = σ 0 3 := (by rw [hfσ67 0 _ (by omega), eσ48, zq_up_ne (by omega), hfσ33 0 _ (by omega), hfσ24 0 _ (by omega), eσ20, zq_up_ne (by omega)]); omega⟩⟩), Mσ67, Oσ67, Tσ67, Wσ67⟩
            · show V 77 [some (ZR 0), some (ZI a), some (ZI c), some (ZI r24), some (ZI 1), some (ZI r67)] [] 41 σ67
              refine zr_bipush (pc := 77) hV (-2) dX12_join_77 (by decide) ?_
              have t144 := zx_g3 hσ67
              have t145 : σ67 0 3 = σ48 0 3 := hfσ67 _ _ (by omega)
              have t146 : σ48 0 3 = σ33 0 3 := by rw [eσ48]; exact zq_up_ne (by omega)
              have t147 : σ33 0 3 = σ24 0 3 := hfσ33 _ _ (by omega)
              have t148 : σ24 0 3 = σ20 0 3 := hfσ24 _ _ (by omega)
              have t149 : σ20 0 3 = σ 0 3 := by rw [eσ20]; exact zq_up_ne (by omega)
              exact zr_iret (pc := 79) hV dX12_join_79 rfl rfl ⟨_, rfl, ⟨by decide, by decide⟩, hσ67, hFσ67, trivial, (show zt_rj σ σ67 a c ((-2) : Int) ∧ ((∀ o, o ≠ σ 0 3 → σ67 8 o = σ 8 o ∧ σ67 9 o = σ 9 o) ∧ (σ67 0 3 = σ 0 3 + 1 → σ67 8 (σ 0 3) = -1 ∧ σ67 9 (σ 0 3) = -1)) from ⟨⟨(fun h => absurd (by omega) h), fun _ => ⟨by rw [hfσ67 0 14 (by omega), eσ48, zq_up_same], fun d => absurd d (dn (by omega)), fun _ nx => absurd (zm1 (by omega)) nx, fun _ _ => ⟨r67, zt_rr_fr (fun i => by rw [eσ48, zq_up_ne (by omega), hfσ33 2 _ (by omega), hfσ24 2 _ (by omega), eσ20, zq_up_ne (by omega)]) (fun i => by rw [eσ48, zq_up_ne (by omega), hfσ33 3 _ (by omega), hfσ24 3 _ (by omega), eσ20, zq_up_ne (by omega)]) (fun i => by rw [eσ48, zq_up_ne (by omega), hfσ33 5 _ (by omega), hfσ24 5 _ (by omega), eσ20, zq_up_ne (by omega)]) (fun i => by rw [eσ48, zq_up_ne (by omega), hfσ33 6 _ (by omega), hfσ24 6 _ (by omega), eσ20, zq_up_ne (by omega)]) (fun i => by rw [eσ48, zq_up_ne (by omega), hfσ33 7 _ (by omega), hfσ24 7 _ (by omega), eσ20, zq_up_ne (by omega)]) (by rw [eσ48, zq_up_ne (by omega), hfσ33 0 _ (by omega), hfσ24 0 _ (by omega), eσ20, zq_up_ne (by omega)]) (by rw [eσ48, zq_up_ne (by omega), hfσ33 0 _ (by omega), hfσ24 0 _ (by omega), eσ20, zq_up_ne (by omega)]) (by rw [eσ48, zq_up_ne (by omega), hfσ33 0 _ (by omega), hfσ24 0 _ (by omega), eσ20, zq_up_ne (by omega)]) (show zt_rr σ48 a c r67 from wσ67.1), fun _ => ⟨by omega, o67⟩, fun h => absurd h (by omega)⟩⟩⟩, ⟨fun o _ => ⟨by rw [hfσ67 8 _ (by omega), eσ48, zq_up_ne (by omega), hfσ33 8 _ (by omega), hfσ24 8 _ (by omega), eσ20, zq_up_ne (by omega)], by rw [hfσ67 9 _ (by omega), eσ48, zq_up_ne (by omega), hfσ33 9 _ (by omega), hfσ24 9 _ (by omega), eσ20, zq_up_ne (by omega)]⟩, fun h => by exfalso; have z : σ67 0 3 = σ 0 3 := (by rw [hfσ67 0 _ (by omega), eσ48, zq_up_ne (by omega), hfσ33 0 _ (by omega), hfσ24 0 _ (by omega), eσ20, zq_up_ne (by omega)]); omega⟩⟩), Mσ67, Oσ67, Tσ67, Wσ67⟩
          · exfalso; omega
    · show V 16 [some (ZR 0), some (ZI a), some (ZI c), none, none, none] [] 41 σ
      refine zr_iconst (pc := 16) hV (-1) dX12_join_16 rfl ?_
      have t150 := zx_g3 hσ
      exact zr_iret (pc := 17) hV dX12_join_17 rfl rfl ⟨_, rfl, ⟨by decide, by decide⟩, hσ, (fun a i _ => rfl), trivial, (show zt_rj σ σ a c ((-1) : Int) ∧ ((∀ o, o ≠ σ 0 3 → σ 8 o = σ 8 o ∧ σ 9 o = σ 9 o) ∧ (σ 0 3 = σ 0 3 + 1 → σ 8 (σ 0 3) = -1 ∧ σ 9 (σ 0 3) = -1)) from ⟨⟨fun _ => ⟨by omega, rfl, rfl⟩, fun h => absurd h (by omega)⟩, ⟨fun _ _ => ⟨rfl, rfl⟩, fun h => by exfalso; omega⟩⟩), Mσ, Oσ, Tσ, Wσ⟩
