set_option maxHeartbeats 800000 in
theorem c_X12_join2 {σ : zq_S} (hσ : zx_T σ) (a c : Int) (q0 : zq_in a) (q1 : zq_in c) (q2 : ∀ i, 0 ≤ i → i < σ 0 14 → 0 ≤ σ 10 i) (Mσ : zx_M σ) (Oσ : zx_O σ) (Tσ : zx_TK σ) (Wσ : zx_W σ) : zq_C zx_w yX12_join cX12_join 6 (some .int) 4 100 41 41 [ZR 0, ZI a, ZI c] σ (zq_pi (fun r τ => zx_T τ ∧ (∀ a i : Int, (¬ (a = 0 ∧ i = 14) ∧ ¬ (a = 0 ∧ i = 15) ∧ ¬ (a = 0 ∧ i = 16) ∧ ¬ (a = 0 ∧ i = 3) ∧ ¬ (a = 0 ∧ i = 30) ∧ ¬ (a = 0 ∧ i = 61) ∧ ¬ (a = 1 ∧ i = (σ 0 3)) ∧ a ≠ 18 ∧ ¬ (a = 2 ∧ 12 * (σ 0 3) ≤ i) ∧ ¬ (a = 3 ∧ i = (σ 0 3)) ∧ ¬ (a = 4 ∧ i = (σ 0 3)) ∧ ¬ (a = 5 ∧ i = (σ 0 3)) ∧ ¬ (a = 6 ∧ 18 * (σ 0 3) ≤ i) ∧ ¬ (a = 7 ∧ i = (σ 0 3)) ∧ a ≠ 8 ∧ a ≠ 9) → τ a i = σ a i) ∧ (True) ∧ zq_hid (zt_rj σ τ a c r) ∧ zx_M τ ∧ zx_O τ ∧ zx_TK τ ∧ zx_W τ)) := by
  refine zq_C_of (by decide) (Nat.le_refl _) (Nat.le_of_ble_eq_true rfl) [some (ZR 0), some (ZI a), some (ZI c), none, none, none] rfl (fun V hV => ?_)
  have z3 := zx_g3 hσ
  have z14 := zx_g14 hσ
  show V 0 [some (ZR 0), some (ZI a), some (ZI c), none, none, none] [] 41 σ
  refine zr_aload_n (pc := 0) hV dX12_join_0 rfl rfl ?_
  refine zr_iload_n (pc := 1) hV dX12_join_1 rfl rfl ?_
  refine zr_callVp (pc := 2) hV [ZI a] (st := []) (c_X12_isOrder (σ := σ) hσ a (by omega)) dX12_join_2 mX12_271 rfl (by decide) (by decide) (Nat.le_of_ble_eq_true rfl) (Nat.le_refl _) (fun r2 hr2 pr2 => ?_)
  have t1 := zx_g3 hσ
  refine zr_if_eq (pc := 5) hV 16 dX12_join_5 (by decide) (by omega) (fun c2 => ?_) (fun c2 => ?_)
  · show V 16 [some (ZR 0), some (ZI a), some (ZI c), none, none, none] [] 41 σ
    refine zr_iconst (pc := 16) hV (-1) dX12_join_16 rfl ?_
    exact zr_iret (pc := 17) hV dX12_join_17 rfl rfl ⟨_, rfl, ⟨by decide, by decide⟩, hσ, (fun a i _ => rfl), trivial, (show zt_rj σ σ a c ((-1) : Int) from ⟨fun _ => ⟨by omega, rfl, rfl⟩, fun h => absurd h (by omega)⟩), Mσ, Oσ, Tσ, Wσ⟩
  · show V 8 [some (ZR 0), some (ZI a), some (ZI c), none, none, none] [] 41 σ
    refine zr_aload_n (pc := 8) hV dX12_join_8 rfl rfl ?_
    refine zr_iload_n (pc := 9) hV dX12_join_9 rfl rfl ?_
    refine zr_callVp (pc := 10) hV [ZI c] (st := []) (c_X12_isOrder (σ := σ) hσ c (by omega)) dX12_join_10 mX12_271 rfl (by decide) (by decide) (Nat.le_of_ble_eq_true rfl) (Nat.le_refl _) (fun r10 hr10 pr10 => ?_)
    have t3 := zx_g3 hσ
    refine zr_if_ne (pc := 13) hV 18 dX12_join_13 (by decide) (by omega) (fun c4 => ?_) (fun c4 => ?_)
    · show V 18 [some (ZR 0), some (ZI a), some (ZI c), none, none, none] [] 41 σ
      refine zr_aload_n (pc := 18) hV dX12_join_18 rfl rfl ?_
      refine zr_iconst (pc := 19) hV 0 dX12_join_19 rfl ?_
      refine zr_putI (pc := 20) hV 15 dX12_join_20 fX12_200 rfl rfl rfl rfl (by decide) (fun σ20 eσ20 => ?_)
      have hσ20 : zx_T σ20 := zx_u15 eσ20 hσ (by omega)
      have hFσ20 : ∀ a i : Int, (¬ (a = 0 ∧ i = 14) ∧ ¬ (a = 0 ∧ i = 15) ∧ ¬ (a = 0 ∧ i = 16) ∧ ¬ (a = 0 ∧ i = 3) ∧ ¬ (a = 0 ∧ i = 30) ∧ ¬ (a = 0 ∧ i = 61) ∧ ¬ (a = 1 ∧ i = (σ 0 3)) ∧ a ≠ 18 ∧ ¬ (a = 2 ∧ 12 * (σ 0 3) ≤ i) ∧ ¬ (a = 3 ∧ i = (σ 0 3)) ∧ ¬ (a = 4 ∧ i = (σ 0 3)) ∧ ¬ (a = 5 ∧ i = (σ 0 3)) ∧ ¬ (a = 6 ∧ 18 * (σ 0 3) ≤ i) ∧ ¬ (a = 7 ∧ i = (σ 0 3)) ∧ a ≠ 8 ∧ a ≠ 9) → σ20 a i = σ a i := fun a i h => by rw [eσ20, zq_up_ne h.2.1]
      have Mσ20 : zx_M σ20 := zx_M_fr (fun i => by rw [eσ20]; exact zq_up_ne (by omega)) (by rw [eσ20]; exact zq_up_ne (by omega)) (by rw [eσ20]; exact zq_up_ne (by omega)) (by rw [eσ20]; exact zq_up_ne (by omega)) Mσ
      have Oσ20 : zx_O σ20 := zx_O_fr (fun i => by rw [eσ20]; exact zq_up_ne (by omega)) (fun i => by rw [eσ20]; exact zq_up_ne (by omega)) (fun i => by rw [eσ20]; exact zq_up_ne (by omega)) (by rw [eσ20]; exact zq_up_ne (by omega)) (by rw [eσ20]; exact zq_up_ne (by omega)) Oσ
      have Tσ20 : zx_TK σ20 := zx_TK_fr (fun i => by rw [eσ20]; exact zq_up_ne (by omega)) (by rw [eσ20]; exact zq_up_ne (by omega)) Tσ
      have Wσ20 : zx_W σ20 := zx_W_fr (fun i => by rw [eσ20]; exact zq_up_ne (by omega)) (by rw [eσ20]; exact zq_up_ne (by omega)) (by rw [eσ20]; exact zq_up_ne (by omega)) (by rw [eσ20]; exact zq_up_ne (by omega)) (fun i => by rw [eσ20]; exact zq_up_ne (by omega)) Wσ
      refine zr_aload_n (pc := 23) hV dX12_join_23 rfl rfl ?_
      refine zr_callVi (pc := 24) hV [] (st := []) (c_X12_readNewName2 (σ := σ20) hσ20 ) dX12_join_24 mX12_248 rfl (by decide) (by decide) (Nat.le_of_ble_eq_true rfl) (Nat.le_refl _) (fun r24 σ24 hr24 pσ24 => ?_)
      obtain ⟨hσ24, hfσ24, pσ24, wσ24⟩ := pσ24
      have Mσ24 : zx_M σ24 := zx_M_fr (fun i => hfσ24 18 i (by omega)) (hfσ24 0 30 (by omega)) (hfσ24 0 2 (by omega)) (hfσ24 0 3 (by omega)) Mσ20
      have Oσ24 : zx_O σ24 := zx_O_fr (fun i => hfσ24 2 i (by omega)) (fun i => hfσ24 5 i (by omega)) (fun i => hfσ24 6 i (by omega)) (hfσ24 0 2 (by omega)) (hfσ24 0 3 (by omega)) Oσ20
      have Tσ24 : zx_TK σ24 := zx_TK_fr (fun i => hfσ24 7 i (by omega)) (hfσ24 0 3 (by omega)) Tσ20
      have Wσ24 : zx_W σ24 := zx_W_fr (fun i => hfσ24 18 i (by omega)) (hfσ24 0 30 (by omega)) (hfσ24 0 2 (by omega)) (hfσ24 0 3 (by omega)) (fun i => hfσ24 2 i (by omega)) Wσ20
      have hFσ24 : ∀ a i : Int, (¬ (a = 0 ∧ i = 14) ∧ ¬ (a = 0 ∧ i = 15) ∧ ¬ (a = 0 ∧ i = 16) ∧ ¬ (a = 0 ∧ i = 3) ∧ ¬ (a = 0 ∧ i = 30) ∧ ¬ (a = 0 ∧ i = 61) ∧ ¬ (a = 1 ∧ i = (σ 0 3)) ∧ a ≠ 18 ∧ ¬ (a = 2 ∧ 12 * (σ 0 3) ≤ i) ∧ ¬ (a = 3 ∧ i = (σ 0 3)) ∧ ¬ (a = 4 ∧ i = (σ 0 3)) ∧ ¬ (a = 5 ∧ i = (σ 0 3)) ∧ ¬ (a = 6 ∧ 18 * (σ 0 3) ≤ i) ∧ ¬ (a = 7 ∧ i = (σ 0 3)) ∧ a ≠ 8 ∧ a ≠ 9) → σ24 a i = σ a i := fun a i h => (hfσ24 a i ⟨h.2.1, h.2.2.1⟩).trans (hFσ20 a i h)
      have t5 := zx_g14 hσ20
      have t6 : σ20 0 14 = σ 0 14 := by rw [eσ20]; exact zq_up_ne (by omega)
      have t7 := zx_g15 hσ20
      have t8 : σ20 0 15 = 0 := by rw [eσ20]; exact zq_up_same _ _ _ _
      have t9 := zx_g3 hσ20
      have t10 : σ20 0 3 = σ 0 3 := by rw [eσ20]; exact zq_up_ne (by omega)
      have t11 := zx_g15 hσ24
      have z20 : σ20 0 15 = 0 := by rw [eσ20, zq_up_same]
      have T20 : σ20 10 = σ 10 := funext (fun i => by rw [eσ20, zq_up_ne (by omega)])
      have N20 : σ20 0 14 = σ 0 14 := by rw [eσ20, zq_up_ne (by omega)]
      rw [T20, N20, z20] at pσ24 wσ24
      have T24 : σ24 10 = σ 10 := funext (fun i => by rw [hfσ24 10 i (by omega), eσ20, zq_up_ne (by omega)])
      have N24 : σ24 0 14 = σ 0 14 := by rw [hfσ24 0 14 (by omega), eσ20, zq_up_ne (by omega)]
      have dn : zq_hid (r24 ≠ 0 → ¬ ((zt_n0 (σ 10) (σ 0 14)) = 0 ∨ ∃ i, 0 ≤ i ∧ i < σ 0 3 ∧ σ 1 i = (zt_nb (σ 10) (zt_z0 (σ 10) (σ 0 14)) (zt_n0 (σ 10) (σ 0 14))))) := fun hr q => q.elim (fun e => (wσ24.1 hr).2.1 e) (fun ⟨i, h0, h1, h2⟩ => (wσ24.1 hr).2.2 i h0 (by rw [eσ20, zq_up_ne (by omega)]; exact h1) (by rw [eσ20, zq_up_ne (by omega)]; exact h2))
      have dy : zq_hid (r24 = 0 → ((zt_n0 (σ 10) (σ 0 14)) = 0 ∨ ∃ i, 0 ≤ i ∧ i < σ 0 3 ∧ σ 1 i = (zt_nb (σ 10) (zt_z0 (σ 10) (σ 0 14)) (zt_n0 (σ 10) (σ 0 14))))) := fun hr => (wσ24.2 hr).imp id (fun ⟨i, h0, h1, h2⟩ => ⟨i, h0, by rw [← (show σ20 0 3 = σ 0 3 by rw [eσ20, zq_up_ne (by omega)])]; exact h1, by rw [← (show σ20 1 i = σ 1 i by rw [eσ20, zq_up_ne (by omega)])]; exact h2⟩)
      refine zr_istore_n (pc := 27) hV [some (ZR 0), some (ZI a), some (ZI c), some (ZI r24), none, none] dX12_join_27 rfl (by decide) rfl rfl ?_
      refine zr_iload_n (pc := 28) hV dX12_join_28 rfl rfl ?_
      refine zr_if_eq (pc := 29) hV 43 dX12_join_29 (by decide) (by omega) (fun c12 => ?_) (fun c12 => ?_)
      · show V 43 [some (ZR 0), some (ZI a), some (ZI c), some (ZI r24), none, none] [] 41 σ24
        refine zr_iconst (pc := 43) hV 0 dX12_join_43 rfl ?_
        show V 44 [some (ZR 0), some (ZI a), some (ZI c), some (ZI r24), none, none] [ZI 0] 41 σ24
        refine zr_istore (pc := 44) hV [some (ZR 0), some (ZI a), some (ZI c), some (ZI r24), some (ZI 0), none] dX12_join_44 (by decide) rfl rfl ?_
        refine zr_aload_n (pc := 46) hV dX12_join_46 rfl rfl ?_
        refine zr_iconst (pc := 47) hV 0 dX12_join_47 rfl ?_
        refine zr_putI (pc := 48) hV 14 dX12_join_48 fX12_197 rfl rfl rfl rfl (by decide) (fun σ48 eσ48 => ?_)
        have hσ48 : zx_T σ48 := zx_u14 eσ48 hσ24 (by omega)
        have hFσ48 : ∀ a i : Int, (¬ (a = 0 ∧ i = 14) ∧ ¬ (a = 0 ∧ i = 15) ∧ ¬ (a = 0 ∧ i = 16) ∧ ¬ (a = 0 ∧ i = 3) ∧ ¬ (a = 0 ∧ i = 30) ∧ ¬ (a = 0 ∧ i = 61) ∧ ¬ (a = 1 ∧ i = (σ 0 3)) ∧ a ≠ 18 ∧ ¬ (a = 2 ∧ 12 * (σ 0 3) ≤ i) ∧ ¬ (a = 3 ∧ i = (σ 0 3)) ∧ ¬ (a = 4 ∧ i = (σ 0 3)) ∧ ¬ (a = 5 ∧ i = (σ 0 3)) ∧ ¬ (a = 6 ∧ 18 * (σ 0 3) ≤ i) ∧ ¬ (a = 7 ∧ i = (σ 0 3)) ∧ a ≠ 8 ∧ a ≠ 9) → σ48 a i = σ a i := fun a i h => by rw [eσ48, zq_up_ne h.1]; exact hFσ24 a i h
        have Mσ48 : zx_M σ48 := zx_M_fr (fun i => by rw [eσ48]; exact zq_up_ne (by omega)) (by rw [eσ48]; exact zq_up_ne (by omega)) (by rw [eσ48]; exact zq_up_ne (by omega)) (by rw [eσ48]; exact zq_up_ne (by omega)) Mσ24
        have Oσ48 : zx_O σ48 := zx_O_fr (fun i => by rw [eσ48]; exact zq_up_ne (by omega)) (fun i => by rw [eσ48]; exact zq_up_ne (by omega)) (fun i => by rw [eσ48]; exact zq_up_ne (by omega)) (by rw [eσ48]; exact zq_up_ne (by omega)) (by rw [eσ48]; exact zq_up_ne (by omega)) Oσ24
        have Tσ48 : zx_TK σ48 := zx_TK_fr (fun i => by rw [eσ48]; exact zq_up_ne (by omega)) (by rw [eσ48]; exact zq_up_ne (by omega)) Tσ24
        have Wσ48 : zx_W σ48 := zx_W_fr (fun i => by rw [eσ48]; exact zq_up_ne (by omega)) (by rw [eσ48]; exact zq_up_ne (by omega)) (by rw [eσ48]; exact zq_up_ne (by omega)) (by rw [eσ48]; exact zq_up_ne (by omega)) (fun i => by rw [eσ48]; exact zq_up_ne (by omega)) Wσ24
        refine zr_iload (pc := 51) hV dX12_join_51 rfl ?_
        refine zr_if_ne (pc := 53) hV 64 dX12_join_53 (by decide) ⟨by decide, by decide⟩ (fun c13 => ?_) (fun c13 => ?_)
        · exfalso; omega
        · show V 56 [some (ZR 0), some (ZI a), some (ZI c), some (ZI r24), some (ZI 0), none] [] 41 σ48
          refine zr_bipush (pc := 56) hV (-20) dX12_join_56 (by decide) ?_
          refine zr_aload_n (pc := 58) hV dX12_join_58 rfl rfl ?_
          refine zr_getI (pc := 59) hV 15 dX12_join_59 fX12_200 rfl rfl rfl (by decide) ?_
          have t14 := zx_g15 hσ48
          have t15 : σ48 0 15 = σ24 0 15 := by rw [eσ48]; exact zq_up_ne (by omega)
          refine zr_isub (pc := 62) hV dX12_join_62 ?_
          exact zr_iret (pc := 63) hV dX12_join_63 rfl rfl ⟨_, rfl, (by omega), hσ48, hFσ48, trivial, (show zt_rj σ σ48 a c ((-20) - (σ48 0 15)) from ⟨(fun h => absurd (by omega) h), fun _ => ⟨by rw [eσ48, zq_up_same], fun _ => ⟨by have q : σ24 0 15 = (zt_z0 (σ 10) (σ 0 14)) := pσ24.2.2.2 (by omega); omega, by rw [eσ48, zq_up_ne (by omega), hfσ24 0 _ (by omega), eσ20, zq_up_ne (by omega)]⟩, fun nd => absurd (dy (by omega)) nd, fun nd => absurd (dy (by omega)) nd⟩⟩), Mσ48, Oσ48, Tσ48, Wσ48⟩
      · show V 32 [some (ZR 0), some (ZI a), some (ZI c), some (ZI r24), none, none] [] 41 σ24
        have a24 : σ24 0 15 = (zt_p0 (σ 10) (σ 0 14)) := pσ24.2.2.1 (by omega)
        refine zr_aload_n (pc := 32) hV dX12_join_32 rfl rfl ?_
        refine zr_callVi (pc := 33) hV [] (st := []) (c_X12_next2 (σ := σ24) hσ24 ) dX12_join_33 mX12_203 rfl (by decide) (by decide) (Nat.le_of_ble_eq_true rfl) (Nat.le_refl _) (fun r33 σ33 hr33 pσ33 => ?_)
        obtain ⟨hσ33, hfσ33, pσ33⟩ := pσ33
        have Mσ33 : zx_M σ33 := zx_M_fr (fun i => hfσ33 18 i (by omega)) (hfσ33 0 30 (by omega)) (hfσ33 0 2 (by omega)) (hfσ33 0 3 (by omega)) Mσ24
        have Oσ33 : zx_O σ33 := zx_O_fr (fun i => hfσ33 2 i (by omega)) (fun i => hfσ33 5 i (by omega)) (fun i => hfσ33 6 i (by omega)) (hfσ33 0 2 (by omega)) (hfσ33 0 3 (by omega)) Oσ24
        have Tσ33 : zx_TK σ33 := zx_TK_fr (fun i => hfσ33 7 i (by omega)) (hfσ33 0 3 (by omega)) Tσ24
        have Wσ33 : zx_W σ33 := zx_W_fr (fun i => hfσ33 18 i (by omega)) (hfσ33 0 30 (by omega)) (hfσ33 0 2 (by omega)) (hfσ33 0 3 (by omega)) (fun i => hfσ33 2 i (by omega)) Wσ24
        have hFσ33 : ∀ a i : Int, (¬ (a = 0 ∧ i = 14) ∧ ¬ (a = 0 ∧ i = 15) ∧ ¬ (a = 0 ∧ i = 16) ∧ ¬ (a = 0 ∧ i = 3) ∧ ¬ (a = 0 ∧ i = 30) ∧ ¬ (a = 0 ∧ i = 61) ∧ ¬ (a = 1 ∧ i = (σ 0 3)) ∧ a ≠ 18 ∧ ¬ (a = 2 ∧ 12 * (σ 0 3) ≤ i) ∧ ¬ (a = 3 ∧ i = (σ 0 3)) ∧ ¬ (a = 4 ∧ i = (σ 0 3)) ∧ ¬ (a = 5 ∧ i = (σ 0 3)) ∧ ¬ (a = 6 ∧ 18 * (σ 0 3) ≤ i) ∧ ¬ (a = 7 ∧ i = (σ 0 3)) ∧ a ≠ 8 ∧ a ≠ 9) → σ33 a i = σ a i := fun a i h => (hfσ33 a i h.2.1).trans (hFσ24 a i h)
        have t16 := zx_g14 hσ24
        have t17 : σ24 0 14 = σ20 0 14 := hfσ24 _ _ (by omega)
        have t18 : σ20 0 14 = σ 0 14 := by rw [eσ20]; exact zq_up_ne (by omega)
        have t19 := zx_g15 hσ24
        have t20 := zx_g15 hσ33
        rw [T24, N24, a24] at pσ33
        have zm1 : zt_nx (σ 10) (σ 0 14) (zt_p0 (σ 10) (σ 0 14)) < 0 → zt_nx (σ 10) (σ 0 14) (zt_p0 (σ 10) (σ 0 14)) = -1 := fun h => zt_nx_m1 q2 (by have := zx_g15 hσ24; omega) h
        refine zr_if_ge (pc := 36) hV 43 dX12_join_36 (by decide) (by omega) (fun c21 => ?_) (fun c21 => ?_)
        · show V 43 [some (ZR 0), some (ZI a), some (ZI c), some (ZI r24), none, none] [] 41 σ33
          refine zr_iconst (pc := 43) hV 0 dX12_join_43 rfl ?_
          show V 44 [some (ZR 0), some (ZI a), some (ZI c), some (ZI r24), none, none] [ZI 0] 41 σ33
          refine zr_istore (pc := 44) hV [some (ZR 0), some (ZI a), some (ZI c), some (ZI r24), some (ZI 0), none] dX12_join_44 (by decide) rfl rfl ?_
          refine zr_aload_n (pc := 46) hV dX12_join_46 rfl rfl ?_
          refine zr_iconst (pc := 47) hV 0 dX12_join_47 rfl ?_
          refine zr_putI (pc := 48) hV 14 dX12_join_48 fX12_197 rfl rfl rfl rfl (by decide) (fun σ48 eσ48 => ?_)
          have hσ48 : zx_T σ48 := zx_u14 eσ48 hσ33 (by omega)
          have hFσ48 : ∀ a i : Int, (¬ (a = 0 ∧ i = 14) ∧ ¬ (a = 0 ∧ i = 15) ∧ ¬ (a = 0 ∧ i = 16) ∧ ¬ (a = 0 ∧ i = 3) ∧ ¬ (a = 0 ∧ i = 30) ∧ ¬ (a = 0 ∧ i = 61) ∧ ¬ (a = 1 ∧ i = (σ 0 3)) ∧ a ≠ 18 ∧ ¬ (a = 2 ∧ 12 * (σ 0 3) ≤ i) ∧ ¬ (a = 3 ∧ i = (σ 0 3)) ∧ ¬ (a = 4 ∧ i = (σ 0 3)) ∧ ¬ (a = 5 ∧ i = (σ 0 3)) ∧ ¬ (a = 6 ∧ 18 * (σ 0 3) ≤ i) ∧ ¬ (a = 7 ∧ i = (σ 0 3)) ∧ a ≠ 8 ∧ a ≠ 9) → σ48 a i = σ a i := fun a i h => by rw [eσ48, zq_up_ne h.1]; exact hFσ33 a i h
          have Mσ48 : zx_M σ48 := zx_M_fr (fun i => by rw [eσ48]; exact zq_up_ne (by omega)) (by rw [eσ48]; exact zq_up_ne (by omega)) (by rw [eσ48]; exact zq_up_ne (by omega)) (by rw [eσ48]; exact zq_up_ne (by omega)) Mσ33
          have Oσ48 : zx_O σ48 := zx_O_fr (fun i => by rw [eσ48]; exact zq_up_ne (by omega)) (fun i => by rw [eσ48]; exact zq_up_ne (by omega)) (fun i => by rw [eσ48]; exact zq_up_ne (by omega)) (by rw [eσ48]; exact zq_up_ne (by omega)) (by rw [eσ48]; exact zq_up_ne (by omega)) Oσ33
          have Tσ48 : zx_TK σ48 := zx_TK_fr (fun i => by rw [eσ48]; exact zq_up_ne (by omega)) (by rw [eσ48]; exact zq_up_ne (by omega)) Tσ33
          have Wσ48 : zx_W σ48 := zx_W_fr (fun i => by rw [eσ48]; exact zq_up_ne (by omega)) (by rw [eσ48]; exact zq_up_ne (by omega)) (by rw [eσ48]; exact zq_up_ne (by omega)) (by rw [eσ48]; exact zq_up_ne (by omega)) (fun i => by rw [eσ48]; exact zq_up_ne (by omega)) Wσ33
          refine zr_iload (pc := 51) hV dX12_join_51 rfl ?_
          refine zr_if_ne (pc := 53) hV 64 dX12_join_53 (by decide) ⟨by decide, by decide⟩ (fun c22 => ?_) (fun c22 => ?_)
          · exfalso; omega
          · show V 56 [some (ZR 0), some (ZI a), some (ZI c), some (ZI r24), some (ZI 0), none] [] 41 σ48
            refine zr_bipush (pc := 56) hV (-20) dX12_join_56 (by decide) ?_
            refine zr_aload_n (pc := 58) hV dX12_join_58 rfl rfl ?_
            refine zr_getI (pc := 59) hV 15 dX12_join_59 fX12_200 rfl rfl rfl (by decide) ?_
            have t23 := zx_g15 hσ48
            have t24 : σ48 0 15 = σ33 0 15 := by rw [eσ48]; exact zq_up_ne (by omega)
            refine zr_isub (pc := 62) hV dX12_join_62 ?_
            exact zr_iret (pc := 63) hV dX12_join_63 rfl rfl ⟨_, rfl, (by omega), hσ48, hFσ48, trivial, (show zt_rj σ σ48 a c ((-20) - (σ48 0 15)) from ⟨(fun h => absurd (by omega) h), fun _ => ⟨by rw [eσ48, zq_up_same], fun d => absurd d (dn (by omega)), fun _ _ => ⟨by omega, by rw [eσ48, zq_up_ne (by omega), hfσ33 0 _ (by omega), hfσ24 0 _ (by omega), eσ20, zq_up_ne (by omega)]⟩, fun _ nx => absurd nx (by omega)⟩⟩), Mσ48, Oσ48, Tσ48, Wσ48⟩
        · show V 39 [some (ZR 0), some (ZI a), some (ZI c), some (ZI r24), none, none] [] 41 σ33
          refine zr_iconst (pc := 39) hV 1 dX12_join_39 rfl ?_
          refine zr_goto (pc := 40) hV 44 dX12_join_40 (by decide) ?_
          show V 44 [some (ZR 0), some (ZI a), some (ZI c), some (ZI r24), none, none] [ZI 1] 41 σ33
          refine zr_istore (pc := 44) hV [some (ZR 0), some (ZI a), some (ZI c), some (ZI r24), some (ZI 1), none] dX12_join_44 (by decide) rfl rfl ?_
          refine zr_aload_n (pc := 46) hV dX12_join_46 rfl rfl ?_
          refine zr_iconst (pc := 47) hV 0 dX12_join_47 rfl ?_
          refine zr_putI (pc := 48) hV 14 dX12_join_48 fX12_197 rfl rfl rfl rfl (by decide) (fun σ48 eσ48 => ?_)
          have hσ48 : zx_T σ48 := zx_u14 eσ48 hσ33 (by omega)
          have hFσ48 : ∀ a i : Int, (¬ (a = 0 ∧ i = 14) ∧ ¬ (a = 0 ∧ i = 15) ∧ ¬ (a = 0 ∧ i = 16) ∧ ¬ (a = 0 ∧ i = 3) ∧ ¬ (a = 0 ∧ i = 30) ∧ ¬ (a = 0 ∧ i = 61) ∧ ¬ (a = 1 ∧ i = (σ 0 3)) ∧ a ≠ 18 ∧ ¬ (a = 2 ∧ 12 * (σ 0 3) ≤ i) ∧ ¬ (a = 3 ∧ i = (σ 0 3)) ∧ ¬ (a = 4 ∧ i = (σ 0 3)) ∧ ¬ (a = 5 ∧ i = (σ 0 3)) ∧ ¬ (a = 6 ∧ 18 * (σ 0 3) ≤ i) ∧ ¬ (a = 7 ∧ i = (σ 0 3)) ∧ a ≠ 8 ∧ a ≠ 9) → σ48 a i = σ a i := fun a i h => by rw [eσ48, zq_up_ne h.1]; exact hFσ33 a i h
          have Mσ48 : zx_M σ48 := zx_M_fr (fun i => by rw [eσ48]; exact zq_up_ne (by omega)) (by rw [eσ48]; exact zq_up_ne (by omega)) (by rw [eσ48]; exact zq_up_ne (by omega)) (by rw [eσ48]; exact zq_up_ne (by omega)) Mσ33
          have Oσ48 : zx_O σ48 := zx_O_fr (fun i => by rw [eσ48]; exact zq_up_ne (by omega)) (fun i => by rw [eσ48]; exact zq_up_ne (by omega)) (fun i => by rw [eσ48]; exact zq_up_ne (by omega)) (by rw [eσ48]; exact zq_up_ne (by omega)) (by rw [eσ48]; exact zq_up_ne (by omega)) Oσ33
          have Tσ48 : zx_TK σ48 := zx_TK_fr (fun i => by rw [eσ48]; exact zq_up_ne (by omega)) (by rw [eσ48]; exact zq_up_ne (by omega)) Tσ33
          have Wσ48 : zx_W σ48 := zx_W_fr (fun i => by rw [eσ48]; exact zq_up_ne (by omega)) (by rw [eσ48]; exact zq_up_ne (by omega)) (by rw [eσ48]; exact zq_up_ne (by omega)) (by rw [eσ48]; exact zq_up_ne (by omega)) (fun i => by rw [eσ48]; exact zq_up_ne (by omega)) Wσ33
          refine zr_iload (pc := 51) hV dX12_join_51 rfl ?_
          refine zr_if_ne (pc := 53) hV 64 dX12_join_53 (by decide) ⟨by decide, by decide⟩ (fun c25 => ?_) (fun c25 => ?_)
          · show V 64 [some (ZR 0), some (ZI a), some (ZI c), some (ZI r24), some (ZI 1), none] [] 41 σ48
            refine zr_aload_n (pc := 64) hV dX12_join_64 rfl rfl ?_
            refine zr_iload_n (pc := 65) hV dX12_join_65 rfl rfl ?_
            refine zr_iload_n (pc := 66) hV dX12_join_66 rfl rfl ?_
            have t26 := zx_g3 hσ48
            have t27 : σ48 0 3 = σ33 0 3 := by rw [eσ48]; exact zq_up_ne (by omega)
            have t28 : σ33 0 3 = σ24 0 3 := hfσ33 _ _ (by omega)
            have t29 : σ24 0 3 = σ20 0 3 := hfσ24 _ _ (by omega)
            have t30 : σ20 0 3 = σ 0 3 := by rw [eσ20]; exact zq_up_ne (by omega)
            have t31 := zx_g3 hσ48
            have t32 : σ48 0 3 = σ33 0 3 := by rw [eσ48]; exact zq_up_ne (by omega)
            have t33 : σ33 0 3 = σ24 0 3 := hfσ33 _ _ (by omega)
            have t34 : σ24 0 3 = σ20 0 3 := hfσ24 _ _ (by omega)
            have t35 : σ20 0 3 = σ 0 3 := by rw [eσ20]; exact zq_up_ne (by omega)
            refine zr_callVi (pc := 67) hV [ZI a, ZI c] (st := []) (c_X12_roomFor3 (σ := σ48) hσ48 a c (by omega) (by omega) Mσ48 Oσ48 Wσ48) dX12_join_67 mX12_473 rfl (by decide) (by decide) (Nat.le_of_ble_eq_true rfl) (Nat.le_refl _) (fun r67 σ67 hr67 pσ67 => ?_)
            obtain ⟨hσ67, hfσ67, pσ67, wσ67, Mσ67, Oσ67, Wσ67⟩ := pσ67
            have Tσ67 : zx_TK σ67 := zx_TK_fr (fun i => hfσ67 7 i (by omega)) (hfσ67 0 3 (by omega)) Tσ48
            have hFσ67 : ∀ a i : Int, (¬ (a = 0 ∧ i = 14) ∧ ¬ (a = 0 ∧ i = 15) ∧ ¬ (a = 0 ∧ i = 16) ∧ ¬ (a = 0 ∧ i = 3) ∧ ¬ (a = 0 ∧ i = 30) ∧ ¬ (a = 0 ∧ i = 61) ∧ ¬ (a = 1 ∧ i = (σ 0 3)) ∧ a ≠ 18 ∧ ¬ (a = 2 ∧ 12 * (σ 0 3) ≤ i) ∧ ¬ (a = 3 ∧ i = (σ 0 3)) ∧ ¬ (a = 4 ∧ i = (σ 0 3)) ∧ ¬ (a = 5 ∧ i = (σ 0 3)) ∧ ¬ (a = 6 ∧ 18 * (σ 0 3) ≤ i) ∧ ¬ (a = 7 ∧ i = (σ 0 3)) ∧ a ≠ 8 ∧ a ≠ 9) → σ67 a i = σ a i := fun a i h => (hfσ67 a i ⟨h.2.2.2.2.1, h.2.2.2.2.2.1, h.2.2.2.2.2.2.2.1⟩).trans (hFσ48 a i h)
            have t36 := zx_g1 hσ48
            have t37 : σ48 0 1 = σ33 0 1 := by rw [eσ48]; exact zq_up_ne (by omega)
            have t38 : σ33 0 1 = σ24 0 1 := hfσ33 _ _ (by omega)
            have t39 : σ24 0 1 = σ20 0 1 := hfσ24 _ _ (by omega)
            have t40 : σ20 0 1 = σ 0 1 := by rw [eσ20]; exact zq_up_ne (by omega)
            have t41 := zx_g2 hσ48
            have t42 : σ48 0 2 = σ33 0 2 := by rw [eσ48]; exact zq_up_ne (by omega)
            have t43 : σ33 0 2 = σ24 0 2 := hfσ33 _ _ (by omega)
            have t44 : σ24 0 2 = σ20 0 2 := hfσ24 _ _ (by omega)
            have t45 : σ20 0 2 = σ 0 2 := by rw [eσ20]; exact zq_up_ne (by omega)
            refine zr_istore (pc := 70) hV [some (ZR 0), some (ZI a), some (ZI c), some (ZI r24), some (ZI 1), some (ZI r67)] dX12_join_70 (by decide) rfl rfl ?_
            have o67 : σ67 0 3 = σ 0 3 := by rw [hfσ67 0 3 (by omega), eσ48, zq_up_ne (by omega), hfσ33 0 3 (by omega), hfσ24 0 3 (by omega), eσ20, zq_up_ne (by omega)]
            refine zr_iload (pc := 72) hV dX12_join_72 rfl ?_
            refine zr_if_ge (pc := 74) hV 80 dX12_join_74 (by decide) (by omega) (fun c46 => ?_) (fun c46 => ?_)
            · show V 80 [some (ZR 0), some (ZI a), some (ZI c), some (ZI r24), some (ZI 1), some (ZI r67)] [] 41 σ67
              have u67 : σ48 5 a + σ48 5 c ≤ 3 ∧ σ48 7 a + σ48 7 c ≤ 10 ∧ σ67 0 61 = zx_rb (zq_or (zx_fm σ48 a 4) (zx_fm σ48 c 4)) (if 0 < zx_cnt σ48 a 3 (σ48 0 2) then zx_cnt σ48 a 3 (σ48 0 2) else zx_cnt σ48 c 3 (σ48 0 2)) (σ48 0 1) ∧ 0 ≤ σ67 0 61 ∧ σ67 0 61 < σ48 0 2 := wσ67.2 (by omega)
              have e5 := fun i => hfσ67 5 i (by omega)
              have e7 := fun i => hfσ67 7 i (by omega)
              have e2 := fun i => hfσ67 2 i (by omega)
              have eb := hfσ67 0 2 (by omega)
              have ek := hfσ67 0 1 (by omega)
              have eo := hfσ67 0 3 (by omega)
              have rb67 : σ67 0 61 = zx_rb (zq_or (zx_fm σ67 a 4) (zx_fm σ67 c 4)) (if 0 < zx_cnt σ67 a 3 (σ67 0 2) then zx_cnt σ67 a 3 (σ67 0 2) else zx_cnt σ67 c 3 (σ67 0 2)) (σ67 0 1) := by rw [zx_fm_fr e2 eb, zx_fm_fr e2 eb, zx_cnt_fr e2, zx_cnt_fr e2, eb, ek]; exact u67.2.2.1
              refine zr_aload_n (pc := 80) hV dX12_join_80 rfl rfl ?_
              refine zr_getI (pc := 81) hV 3 dX12_join_81 fX12_150 rfl rfl rfl (by decide) ?_
              have t47 := zx_g3 hσ67
              have t48 : σ67 0 3 = σ48 0 3 := hfσ67 _ _ (by omega)
              have t49 : σ48 0 3 = σ33 0 3 := by rw [eσ48]; exact zq_up_ne (by omega)
              have t50 : σ33 0 3 = σ24 0 3 := hfσ33 _ _ (by omega)
              have t51 : σ24 0 3 = σ20 0 3 := hfσ24 _ _ (by omega)
              have t52 : σ20 0 3 = σ 0 3 := by rw [eσ20]; exact zq_up_ne (by omega)
              refine zr_bipush (pc := 84) hV 20 dX12_join_84 (by decide) ?_
              refine zr_icmp_ne (pc := 86) hV 92 dX12_join_86 (by decide) (by omega) ⟨by decide, by decide⟩ (fun c53 => ?_) (fun c53 => ?_)
              · show V 92 [some (ZR 0), some (ZI a), some (ZI c), some (ZI r24), some (ZI 1), some (ZI r67)] [] 41 σ67
                refine zr_aload_n (pc := 92) hV dX12_join_92 rfl rfl ?_
                refine zr_iload_n (pc := 93) hV dX12_join_93 rfl rfl ?_
                refine zr_iload_n (pc := 94) hV dX12_join_94 rfl rfl ?_
                refine zr_iload (pc := 95) hV dX12_join_95 rfl ?_
                refine zr_iload_n (pc := 97) hV dX12_join_97 rfl rfl ?_
                have t54 := zx_g3 hσ67
                have t55 : σ67 0 3 = σ48 0 3 := hfσ67 _ _ (by omega)
                have t56 : σ48 0 3 = σ33 0 3 := by rw [eσ48]; exact zq_up_ne (by omega)
                have t57 : σ33 0 3 = σ24 0 3 := hfσ33 _ _ (by omega)
                have t58 : σ24 0 3 = σ20 0 3 := hfσ24 _ _ (by omega)
                have t59 : σ20 0 3 = σ 0 3 := by rw [eσ20]; exact zq_up_ne (by omega)
                have t60 := zx_g3 hσ67
                have t61 : σ67 0 3 = σ48 0 3 := hfσ67 _ _ (by omega)
                have t62 : σ48 0 3 = σ33 0 3 := by rw [eσ48]; exact zq_up_ne (by omega)
                have t63 : σ33 0 3 = σ24 0 3 := hfσ33 _ _ (by omega)
                have t64 : σ24 0 3 = σ20 0 3 := hfσ24 _ _ (by omega)
                have t65 : σ20 0 3 = σ 0 3 := by rw [eσ20]; exact zq_up_ne (by omega)
                have t66 := zx_g3 hσ67
                have t67 : σ67 0 3 = σ48 0 3 := hfσ67 _ _ (by omega)
                have t68 : σ48 0 3 = σ33 0 3 := by rw [eσ48]; exact zq_up_ne (by omega)
                have t69 : σ33 0 3 = σ24 0 3 := hfσ33 _ _ (by omega)
                have t70 : σ24 0 3 = σ20 0 3 := hfσ24 _ _ (by omega)
                have t71 : σ20 0 3 = σ 0 3 := by rw [eσ20]; exact zq_up_ne (by omega)
                have t72 := zx_g1 hσ67
                have t73 : σ67 0 1 = σ48 0 1 := hfσ67 _ _ (by omega)
                have t74 : σ48 0 1 = σ33 0 1 := by rw [eσ48]; exact zq_up_ne (by omega)
                have t75 : σ33 0 1 = σ24 0 1 := hfσ33 _ _ (by omega)
                have t76 : σ24 0 1 = σ20 0 1 := hfσ24 _ _ (by omega)
                have t77 : σ20 0 1 = σ 0 1 := by rw [eσ20]; exact zq_up_ne (by omega)
                have t78 := zx_g2 hσ67
                have t79 : σ67 0 2 = σ48 0 2 := hfσ67 _ _ (by omega)
                have t80 : σ48 0 2 = σ33 0 2 := by rw [eσ48]; exact zq_up_ne (by omega)
                have t81 : σ33 0 2 = σ24 0 2 := hfσ33 _ _ (by omega)
                have t82 : σ24 0 2 = σ20 0 2 := hfσ24 _ _ (by omega)
                have t83 : σ20 0 2 = σ 0 2 := by rw [eσ20]; exact zq_up_ne (by omega)
                have t84 := zx_g61 hσ67
                have t85 := zx_g2 hσ67
                have t86 : σ67 0 2 = σ48 0 2 := hfσ67 _ _ (by omega)
                have t87 : σ48 0 2 = σ33 0 2 := by rw [eσ48]; exact zq_up_ne (by omega)
                have t88 : σ33 0 2 = σ24 0 2 := hfσ33 _ _ (by omega)
                have t89 : σ24 0 2 = σ20 0 2 := hfσ24 _ _ (by omega)
                have t90 : σ20 0 2 = σ 0 2 := by rw [eσ20]; exact zq_up_ne (by omega)
                have t91 := zx_g61 hσ67
                refine zr_callVv (pc := 98) hV [ZI a, ZI c, ZI r67, ZI r24] (st := []) (c_X12_layJoined2 (σ := σ67) hσ67 a c r67 r24 (by omega) (by omega) (by omega) (by omega) (by omega) (by rw [e5 a, e5 c]; exact u67.1) (by rw [e7 a, e7 c]; exact u67.2.1) (Tσ67 a (by omega) (by omega)) (Tσ67 c (by omega) (by omega)) (Oσ67 a (by omega) (by omega)).1 (Oσ67 c (by omega) (by omega)).1 (Oσ67 a (by omega) (by omega)).2 (Oσ67 c (by omega) (by omega)).2 rb67 ⟨u67.2.2.2.1, by have := u67.2.2.2.2; omega⟩) dX12_join_98 mX12_476 rfl (by decide) (by decide) (Nat.le_of_ble_eq_true rfl) (Nat.le_refl _) (fun σ98 pσ98 => ?_)
                obtain ⟨hσ98, hfσ98, pσ98, wσ98⟩ := pσ98
                have Mσ98 : zx_M σ98 := zx_M_fr (fun i => hfσ98 18 i (by omega)) (hfσ98 0 30 (by omega)) (hfσ98 0 2 (by omega)) (hfσ98 0 3 (by omega)) Mσ67
                have Oσ98 : zx_O σ98 := zx_O_old hσ67 (hfσ98 0 2 (by omega)) (hfσ98 0 3 (by omega)) (fun i h => hfσ98 2 i (by omega)) (fun i h => hfσ98 5 i (by omega)) (fun i h => hfσ98 6 i (by omega)) Oσ67
                have Tσ98 : zx_TK σ98 := zx_TK_old (hfσ98 0 3 (by omega)) (fun i h => hfσ98 7 i (by omega)) Tσ67
                have Wσ98 : zx_W σ98 := zx_W_old (fun i => hfσ98 18 i (by omega)) (hfσ98 0 30 (by omega)) (hfσ98 0 2 (by omega)) (hfσ98 0 3 (by omega)) (by have := zx_g2 hσ67; omega) (fun i h => hfσ98 2 i (by omega)) Wσ67
                have hFσ98 : ∀ a i : Int, (¬ (a = 0 ∧ i = 14) ∧ ¬ (a = 0 ∧ i = 15) ∧ ¬ (a = 0 ∧ i = 16) ∧ ¬ (a = 0 ∧ i = 3) ∧ ¬ (a = 0 ∧ i = 30) ∧ ¬ (a = 0 ∧ i = 61) ∧ ¬ (a = 1 ∧ i = (σ 0 3)) ∧ a ≠ 18 ∧ ¬ (a = 2 ∧ 12 * (σ 0 3) ≤ i) ∧ ¬ (a = 3 ∧ i = (σ 0 3)) ∧ ¬ (a = 4 ∧ i = (σ 0 3)) ∧ ¬ (a = 5 ∧ i = (σ 0 3)) ∧ ¬ (a = 6 ∧ 18 * (σ 0 3) ≤ i) ∧ ¬ (a = 7 ∧ i = (σ 0 3)) ∧ a ≠ 8 ∧ a ≠ 9) → σ98 a i = σ a i := fun a i h => (hfσ98 a i ⟨(fun q => h.2.2.2.2.2.2.1 ⟨q.1, by omega⟩), (fun q => h.2.2.2.2.2.2.2.2.1 ⟨q.1, by omega⟩), (fun q => h.2.2.2.2.2.2.2.2.2.1 ⟨q.1, by omega⟩), (fun q => h.2.2.2.2.2.2.2.2.2.2.1 ⟨q.1, by omega⟩), (fun q => h.2.2.2.2.2.2.2.2.2.2.2.1 ⟨q.1, by omega⟩), (fun q => h.2.2.2.2.2.2.2.2.2.2.2.2.1 ⟨q.1, by omega⟩), (fun q => h.2.2.2.2.2.2.2.2.2.2.2.2.2.1 ⟨q.1, by omega⟩)⟩).trans (hFσ67 a i h)
                have t92 := zx_g3 hσ67
                have t93 : σ67 0 3 = σ48 0 3 := hfσ67 _ _ (by omega)
                have t94 : σ48 0 3 = σ33 0 3 := by rw [eσ48]; exact zq_up_ne (by omega)
                have t95 : σ33 0 3 = σ24 0 3 := hfσ33 _ _ (by omega)
                have t96 : σ24 0 3 = σ20 0 3 := hfσ24 _ _ (by omega)
                have t97 : σ20 0 3 = σ 0 3 := by rw [eσ20]; exact zq_up_ne (by omega)
                refine zr_aload_n (pc := 101) hV dX12_join_101 rfl rfl ?_
                have w3 : σ98 0 3 = σ67 0 3 := hfσ98 0 3 (by omega)
                have t98 := zx_g3 hσ98
                have t99 : σ98 0 3 = σ67 0 3 := hfσ98 _ _ (by omega)
                have t100 : σ67 0 3 = σ48 0 3 := hfσ67 _ _ (by omega)
                have t101 : σ48 0 3 = σ33 0 3 := by rw [eσ48]; exact zq_up_ne (by omega)
                have t102 : σ33 0 3 = σ24 0 3 := hfσ33 _ _ (by omega)
                have t103 : σ24 0 3 = σ20 0 3 := hfσ24 _ _ (by omega)
                have t104 : σ20 0 3 = σ 0 3 := by rw [eσ20]; exact zq_up_ne (by omega)
                have t105 := zx_g3 hσ98
                have t106 : σ98 0 3 = σ67 0 3 := hfσ98 _ _ (by omega)
                have t107 : σ67 0 3 = σ48 0 3 := hfσ67 _ _ (by omega)
                have t108 : σ48 0 3 = σ33 0 3 := by rw [eσ48]; exact zq_up_ne (by omega)
                have t109 : σ33 0 3 = σ24 0 3 := hfσ33 _ _ (by omega)
                have t110 : σ24 0 3 = σ20 0 3 := hfσ24 _ _ (by omega)
                have t111 : σ20 0 3 = σ 0 3 := by rw [eσ20]; exact zq_up_ne (by omega)
                have t112 := zx_g3 hσ98
                have t113 : σ98 0 3 = σ67 0 3 := hfσ98 _ _ (by omega)
                have t114 : σ67 0 3 = σ48 0 3 := hfσ67 _ _ (by omega)
                have t115 : σ48 0 3 = σ33 0 3 := by rw [eσ48]; exact zq_up_ne (by omega)
                have t116 : σ33 0 3 = σ24 0 3 := hfσ33 _ _ (by omega)
                have t117 : σ24 0 3 = σ20 0 3 := hfσ24 _ _ (by omega)
                have t118 : σ20 0 3 = σ 0 3 := by rw [eσ20]; exact zq_up_ne (by omega)
                refine zr_callVi (pc := 102) hV [] (st := []) (c_X12_addOrder3 (σ := σ98) hσ98 (by rw [w3]; exact pσ98.1) (by rw [w3]; exact pσ98.2.1) (by rw [w3]; exact pσ98.2.2) Mσ98 Oσ98 Tσ98 Wσ98) dX12_join_102 mX12_268 rfl (by decide) (by decide) (Nat.le_of_ble_eq_true rfl) (Nat.le_refl _) (fun r102 σ102 hr102 pσ102 => ?_)
                obtain ⟨hσ102, hfσ102, pσ102, Mσ102, Oσ102, Tσ102, Wσ102⟩ := pσ102
                have hFσ102 : ∀ a i : Int, (¬ (a = 0 ∧ i = 14) ∧ ¬ (a = 0 ∧ i = 15) ∧ ¬ (a = 0 ∧ i = 16) ∧ ¬ (a = 0 ∧ i = 3) ∧ ¬ (a = 0 ∧ i = 30) ∧ ¬ (a = 0 ∧ i = 61) ∧ ¬ (a = 1 ∧ i = (σ 0 3)) ∧ a ≠ 18 ∧ ¬ (a = 2 ∧ 12 * (σ 0 3) ≤ i) ∧ ¬ (a = 3 ∧ i = (σ 0 3)) ∧ ¬ (a = 4 ∧ i = (σ 0 3)) ∧ ¬ (a = 5 ∧ i = (σ 0 3)) ∧ ¬ (a = 6 ∧ 18 * (σ 0 3) ≤ i) ∧ ¬ (a = 7 ∧ i = (σ 0 3)) ∧ a ≠ 8 ∧ a ≠ 9) → σ102 a i = σ a i := fun a i h => (hfσ102 a i ⟨h.2.2.2.1, h.2.2.2.2.1, h.2.2.2.2.2.2.2.2.2.2.2.2.2.2.1, h.2.2.2.2.2.2.2.2.2.2.2.2.2.2.2⟩).trans (hFσ98 a i h)
                have t119 := zx_g3 hσ98
                have t120 : σ98 0 3 = σ67 0 3 := hfσ98 _ _ (by omega)
                have t121 : σ67 0 3 = σ48 0 3 := hfσ67 _ _ (by omega)
                have t122 : σ48 0 3 = σ33 0 3 := by rw [eσ48]; exact zq_up_ne (by omega)
                have t123 : σ33 0 3 = σ24 0 3 := hfσ33 _ _ (by omega)
                have t124 : σ24 0 3 = σ20 0 3 := hfσ24 _ _ (by omega)
                have t125 : σ20 0 3 = σ 0 3 := by rw [eσ20]; exact zq_up_ne (by omega)
                have t126 := zx_g3 hσ102
                exact zr_iret (pc := 105) hV dX12_join_105 rfl rfl ⟨_, rfl, (by omega), hσ102, hFσ102, trivial, (show zt_rj σ σ102 a c r102 from ⟨(fun h => absurd (by omega) h), fun _ => ⟨by rw [hfσ102 0 14 (by omega), hfσ98 0 14 (by omega), hfσ67 0 14 (by omega), eσ48, zq_up_same], fun d => absurd d (dn (by omega)), fun _ nx => absurd (zm1 (by omega)) nx, fun _ _ => ⟨r67, zt_rr_fr (fun i => by rw [eσ48, zq_up_ne (by omega), hfσ33 2 _ (by omega), hfσ24 2 _ (by omega), eσ20, zq_up_ne (by omega)]) (fun i => by rw [eσ48, zq_up_ne (by omega), hfσ33 3 _ (by omega), hfσ24 3 _ (by omega), eσ20, zq_up_ne (by omega)]) (fun i => by rw [eσ48, zq_up_ne (by omega), hfσ33 5 _ (by omega), hfσ24 5 _ (by omega), eσ20, zq_up_ne (by omega)]) (fun i => by rw [eσ48, zq_up_ne (by omega), hfσ33 6 _ (by omega), hfσ24 6 _ (by omega), eσ20, zq_up_ne (by omega)]) (fun i => by rw [eσ48, zq_up_ne (by omega), hfσ33 7 _ (by omega), hfσ24 7 _ (by omega), eσ20, zq_up_ne (by omega)]) (by rw [eσ48, zq_up_ne (by omega), hfσ33 0 _ (by omega), hfσ24 0 _ (by omega), eσ20, zq_up_ne (by omega)]) (by rw [eσ48, zq_up_ne (by omega), hfσ33 0 _ (by omega), hfσ24 0 _ (by omega), eσ20, zq_up_ne (by omega)]) (by rw [eσ48, zq_up_ne (by omega), hfσ33 0 _ (by omega), hfσ24 0 _ (by omega), eσ20, zq_up_ne (by omega)]) (show zt_rr σ48 a c r67 from wσ67.1), fun h => absurd h (by omega), fun _ => ⟨fun h => absurd h (by omega), fun _ => ⟨by omega, by omega, by have q := wσ98; rw [show r24 = (zt_nb (σ 10) (zt_z0 (σ 10) (σ 0 14)) (zt_n0 (σ 10) (σ 0 14))) from (wσ24.1 (by omega)).1] at q; exact zt_lj_fr (fun i => by rw [hfσ67 2 _ (by omega), eσ48, zq_up_ne (by omega), hfσ33 2 _ (by omega), hfσ24 2 _ (by omega), eσ20, zq_up_ne (by omega)]) (fun i => by rw [hfσ67 5 _ (by omega), eσ48, zq_up_ne (by omega), hfσ33 5 _ (by omega), hfσ24 5 _ (by omega), eσ20, zq_up_ne (by omega)]) (fun i => by rw [hfσ67 6 _ (by omega), eσ48, zq_up_ne (by omega), hfσ33 6 _ (by omega), hfσ24 6 _ (by omega), eσ20, zq_up_ne (by omega)]) (fun i => by rw [hfσ67 7 _ (by omega), eσ48, zq_up_ne (by omega), hfσ33 7 _ (by omega), hfσ24 7 _ (by omega), eσ20, zq_up_ne (by omega)]) (by rw [hfσ67 0 _ (by omega), eσ48, zq_up_ne (by omega), hfσ33 0 _ (by omega), hfσ24 0 _ (by omega), eσ20, zq_up_ne (by omega)]) (by rw [hfσ67 0 _ (by omega), eσ48, zq_up_ne (by omega), hfσ33 0 _ (by omega), hfσ24 0 _ (by omega), eσ20, zq_up_ne (by omega)]) (by rw [hfσ67 0 _ (by omega), eσ48, zq_up_ne (by omega), hfσ33 0 _ (by omega), hfσ24 0 _ (by omega), eσ20, zq_up_ne (by omega)]) (fun i => hfσ102 1 i (by omega)) (fun i => hfσ102 2 i (by omega)) (fun i => hfσ102 3 i (by omega)) (fun i => hfσ102 4 i (by omega)) (fun i => hfσ102 5 i (by omega)) (fun i => hfσ102 6 i (by omega)) (fun i => hfσ102 7 i (by omega)) q⟩⟩⟩⟩⟩), Mσ102, Oσ102, Tσ102, Wσ102⟩
              · show V 89 [some (ZR 0), some (ZI a), some (ZI c), some (ZI r24), some (ZI 1), some (ZI r67)] [] 41 σ67
                refine zr_bipush (pc := 89) hV (-3) dX12_join_89 (by decide) ?_
                exact zr_iret (pc := 91) hV dX12_join_91 rfl rfl ⟨_, rfl, ⟨by decide, by decide⟩, hσ67, hFσ67, trivial, (show zt_rj σ σ67 a c ((-3) : Int) from ⟨(fun h => absurd (by omega) h), fun _ => ⟨by rw [hfσ67 0 14 (by omega), eσ48, zq_up_same], fun d => absurd d (dn (by omega)), fun _ nx => absurd (zm1 (by omega)) nx, fun _ _ => ⟨r67, zt_rr_fr (fun i => by rw [eσ48, zq_up_ne (by omega), hfσ33 2 _ (by omega), hfσ24 2 _ (by omega), eσ20, zq_up_ne (by omega)]) (fun i => by rw [eσ48, zq_up_ne (by omega), hfσ33 3 _ (by omega), hfσ24 3 _ (by omega), eσ20, zq_up_ne (by omega)]) (fun i => by rw [eσ48, zq_up_ne (by omega), hfσ33 5 _ (by omega), hfσ24 5 _ (by omega), eσ20, zq_up_ne (by omega)]) (fun i => by rw [eσ48, zq_up_ne (by omega), hfσ33 6 _ (by omega), hfσ24 6 _ (by omega), eσ20, zq_up_ne (by omega)]) (fun i => by rw [eσ48, zq_up_ne (by omega), hfσ33 7 _ (by omega), hfσ24 7 _ (by omega), eσ20, zq_up_ne (by omega)]) (by rw [eσ48, zq_up_ne (by omega), hfσ33 0 _ (by omega), hfσ24 0 _ (by omega), eσ20, zq_up_ne (by omega)]) (by rw [eσ48, zq_up_ne (by omega), hfσ33 0 _ (by omega), hfσ24 0 _ (by omega), eσ20, zq_up_ne (by omega)]) (by rw [eσ48, zq_up_ne (by omega), hfσ33 0 _ (by omega), hfσ24 0 _ (by omega), eσ20, zq_up_ne (by omega)]) (show zt_rr σ48 a c r67 from wσ67.1), fun h => absurd h (by omega), fun _ => ⟨fun _ => ⟨by omega, o67⟩, fun h => absurd (by omega) h⟩⟩⟩⟩), Mσ67, Oσ67, Tσ67, Wσ67⟩
            · show V 77 [some (ZR 0), some (ZI a), some (ZI c), some (ZI r24), some (ZI 1), some (ZI r67)] [] 41 σ67
              refine zr_bipush (pc := 77) hV (-2) dX12_join_77 (by decide) ?_
              exact zr_iret (pc := 79) hV dX12_join_79 rfl rfl ⟨_, rfl, ⟨by decide, by decide⟩, hσ67, hFσ67, trivial, (show zt_rj σ σ67 a c ((-2) : Int) from ⟨(fun h => absurd (by omega) h), fun _ => ⟨by rw [hfσ67 0 14 (by omega), eσ48, zq_up_same], fun d => absurd d (dn (by omega)), fun _ nx => absurd (zm1 (by omega)) nx, fun _ _ => ⟨r67, zt_rr_fr (fun i => by rw [eσ48, zq_up_ne (by omega), hfσ33 2 _ (by omega), hfσ24 2 _ (by omega), eσ20, zq_up_ne (by omega)]) (fun i => by rw [eσ48, zq_up_ne (by omega), hfσ33 3 _ (by omega), hfσ24 3 _ (by omega), eσ20, zq_up_ne (by omega)]) (fun i => by rw [eσ48, zq_up_ne (by omega), hfσ33 5 _ (by omega), hfσ24 5 _ (by omega), eσ20, zq_up_ne (by omega)]) (fun i => by rw [eσ48, zq_up_ne (by omega), hfσ33 6 _ (by omega), hfσ24 6 _ (by omega), eσ20, zq_up_ne (by omega)]) (fun i => by rw [eσ48, zq_up_ne (by omega), hfσ33 7 _ (by omega), hfσ24 7 _ (by omega), eσ20, zq_up_ne (by omega)]) (by rw [eσ48, zq_up_ne (by omega), hfσ33 0 _ (by omega), hfσ24 0 _ (by omega), eσ20, zq_up_ne (by omega)]) (by rw [eσ48, zq_up_ne (by omega), hfσ33 0 _ (by omega), hfσ24 0 _ (by omega), eσ20, zq_up_ne (by omega)]) (by rw [eσ48, zq_up_ne (by omega), hfσ33 0 _ (by omega), hfσ24 0 _ (by omega), eσ20, zq_up_ne (by omega)]) (show zt_rr σ48 a c r67 from wσ67.1), fun _ => ⟨by omega, o67⟩, fun h => absurd h (by omega)⟩⟩⟩), Mσ67, Oσ67, Tσ67, Wσ67⟩
          · exfalso; omega
    · show V 16 [some (ZR 0), some (ZI a), some (ZI c), none, none, none] [] 41 σ
      refine zr_iconst (pc := 16) hV (-1) dX12_join_16 rfl ?_
      exact zr_iret (pc := 17) hV dX12_join_17 rfl rfl ⟨_, rfl, ⟨by decide, by decide⟩, hσ, (fun a i _ => rfl), trivial, (show zt_rj σ σ a c ((-1) : Int) from ⟨fun _ => ⟨by omega, rfl, rfl⟩, fun h => absurd h (by omega)⟩), Mσ, Oσ, Tσ, Wσ⟩
