set_option maxHeartbeats 800000 in
theorem c_X12_lookW {σ : zq_S} (hσ : zx_T σ) (bits : Int) (q0 : zq_in bits) (Mσ : zx_M σ) (Wσ : zx_W σ) : zq_C zx_w yX12_look cX12_look 2 (some .int) 3 69 41 41 [ZR 0, ZI bits] σ (zq_pi (fun r τ => zx_T τ ∧ (∀ a i : Int, (¬ (a = 0 ∧ i = 30) ∧ a ≠ 18) → τ a i = σ a i) ∧ (True) ∧ zx_M τ ∧ zx_W τ)) := by
  refine zq_C_of (by decide) (Nat.le_refl _) (Nat.le_of_ble_eq_true rfl) [some (ZR 0), some (ZI bits)] rfl (fun V hV => ?_)
  show V 0 [some (ZR 0), some (ZI bits)] [] 41 σ
  refine zr_aload_n (pc := 0) hV dX12_look_0 rfl rfl ?_
  refine zr_iload_n (pc := 1) hV dX12_look_1 rfl rfl ?_
  refine zr_callVp (pc := 2) hV [ZI bits] (st := []) (c_X12_isBits (σ := σ) hσ bits (by omega)) dX12_look_2 mX12_280 rfl (by decide) (by decide) (Nat.le_of_ble_eq_true rfl) (Nat.le_refl _) (fun r2 hr2 pr2 => ?_)
  have t1 := zx_g2 hσ
  refine zr_if_eq (pc := 5) hV 16 dX12_look_5 (by decide) (by omega) (fun c2 => ?_) (fun c2 => ?_)
  · show V 16 [some (ZR 0), some (ZI bits)] [] 41 σ
    refine zr_iconst (pc := 16) hV (-1) dX12_look_16 rfl ?_
    show V 17 [some (ZR 0), some (ZI bits)] [ZI (-1)] 41 σ
    exact zr_iret (pc := 17) hV dX12_look_17 rfl rfl ⟨_, rfl, ⟨by decide, by decide⟩, hσ, (fun a i _ => rfl), trivial, Mσ, Wσ⟩
  · show V 8 [some (ZR 0), some (ZI bits)] [] 41 σ
    refine zr_aload_n (pc := 8) hV dX12_look_8 rfl rfl ?_
    refine zr_iload_n (pc := 9) hV dX12_look_9 rfl rfl ?_
    refine zr_callVi (pc := 10) hV [ZI bits] (st := []) (c_X12_ownerOf2 (σ := σ) hσ bits (by omega) Mσ Wσ) dX12_look_10 mX12_283 rfl (by decide) (by decide) (Nat.le_of_ble_eq_true rfl) (Nat.le_refl _) (fun r10 σ10 hr10 pσ10 => ?_)
    obtain ⟨hσ10, hfσ10, pσ10⟩ := pσ10
    have Mσ10 : zx_M σ10 := pσ10.2.2.2.2.2.1
    have Wσ10 : zx_W σ10 := pσ10.2.2.2.2.2.2
    have hFσ10 : ∀ a i : Int, (¬ (a = 0 ∧ i = 30) ∧ a ≠ 18) → σ10 a i = σ a i := fun a i h => (hfσ10 a i ⟨h.1, h.2⟩)
    have t3 := zx_g30 hσ
    have t4 := zx_g30 hσ10
    refine zr_goto (pc := 13) hV 17 dX12_look_13 (by decide) ?_
    show V 17 [some (ZR 0), some (ZI bits)] [ZI r10] 41 σ10
    exact zr_iret (pc := 17) hV dX12_look_17 rfl rfl ⟨_, rfl, (by omega), hσ10, hFσ10, trivial, Mσ10, Wσ10⟩
set_option maxHeartbeats 800000 in
theorem c_X12_holesW {σ : zq_S} (hσ : zx_T σ)  (Mσ : zx_M σ) (Wσ : zx_W σ) : zq_C zx_w yX12_holes cX12_holes 3 (some .int) 3 69 41 41 [ZR 0] σ (zq_pi (fun r τ => zx_T τ ∧ (∀ a i : Int, (¬ (a = 0 ∧ i = 30) ∧ a ≠ 18) → τ a i = σ a i) ∧ (True) ∧ zx_M τ ∧ zx_W τ)) := by
  refine zq_C_of (by decide) (Nat.le_refl _) (Nat.le_of_ble_eq_true rfl) [some (ZR 0), none, none] rfl (fun V hV => ?_)
  show V 0 [some (ZR 0), none, none] [] 41 σ
  refine zr_iconst (pc := 0) hV 0 dX12_holes_0 rfl ?_
  refine zr_istore_n (pc := 1) hV [some (ZR 0), some (ZI 0), none] dX12_holes_1 rfl (by decide) rfl rfl ?_
  refine zr_iconst (pc := 2) hV 0 dX12_holes_2 rfl ?_
  refine zr_istore_n (pc := 3) hV [some (ZR 0), some (ZI 0), some (ZI 0)] dX12_holes_3 rfl (by decide) rfl rfl ?_
  have L4 : ∀ (fuel : Nat) (x1_4 : Int) (x2_4 : Int) (σ_4 : zq_S), ((-2147483648) ≤ x1_4 ∧ x1_4 ≤ 2147483647) → (0 ≤ x2_4 ∧ x2_4 ≤ 4096) → (zx_T σ_4) → (∀ a i : Int, (¬ (a = 0 ∧ i = 30) ∧ a ≠ 18) → σ_4 a i = σ a i) → (zx_M σ_4) → (zx_W σ_4) → 4096 - x2_4 < (fuel : Int) → V 4 [some (ZR 0), some (ZI x1_4), some (ZI x2_4)] [] 41 σ_4 := by
    intro fuel
    induction fuel with
    | zero =>
      intro x1_4 x2_4 σ_4 hx1_4 hx2_4 hσ_4 hFσ_4 Mσ_4 Wσ_4 hm4
      exfalso; omega
    | succ fuel ih =>
      intro x1_4 x2_4 σ_4 hx1_4 hx2_4 hσ_4 hFσ_4 Mσ_4 Wσ_4 hm4
      have ih4 := ih
      show V 4 [some (ZR 0), some (ZI x1_4), some (ZI x2_4)] [] 41 σ_4
      refine zr_iload_n (pc := 4) hV dX12_holes_4 rfl rfl ?_
      refine zr_iconst (pc := 5) hV 1 dX12_holes_5 rfl ?_
      refine zr_aload_n (pc := 6) hV dX12_holes_6 rfl rfl ?_
      refine zr_getI (pc := 7) hV 2 dX12_holes_7 fX12_16 rfl rfl rfl (by decide) ?_
      have t1 := zx_g2 hσ_4
      have t2 : σ_4 0 2 = σ 0 2 := hFσ_4 _ _ (by omega)
      refine zr_ishl (pc := 10) hV dX12_holes_10 ?_
      have t3 := zx_shl_one (y := σ_4 0 2) 12 4096 (by decide) (by decide) (by omega)
      refine zr_icmp_ge (pc := 11) hV 36 dX12_holes_11 (by decide) (by omega) (by omega) (fun c4 => ?_) (fun c4 => ?_)
      · show V 36 [some (ZR 0), some (ZI x1_4), some (ZI x2_4)] [] 41 σ_4
        refine zr_iload_n (pc := 36) hV dX12_holes_36 rfl rfl ?_
        exact zr_iret (pc := 37) hV dX12_holes_37 rfl rfl ⟨_, rfl, (by omega), hσ_4, hFσ_4, trivial, Mσ_4, Wσ_4⟩
      · show V 14 [some (ZR 0), some (ZI x1_4), some (ZI x2_4)] [] 41 σ_4
        refine zr_iload_n (pc := 14) hV dX12_holes_14 rfl rfl ?_
        refine zr_aload_n (pc := 15) hV dX12_holes_15 rfl rfl ?_
        refine zr_iload_n (pc := 16) hV dX12_holes_16 rfl rfl ?_
        refine zr_callVi (pc := 17) hV [ZI x2_4] (st := [ZI x1_4]) (c_X12_ownerOf2 (σ := σ_4) hσ_4 x2_4 (by omega) Mσ_4 Wσ_4) dX12_holes_17 mX12_283 rfl (by decide) (by decide) (Nat.le_of_ble_eq_true rfl) (Nat.le_refl _) (fun r17 σ17 hr17 pσ17 => ?_)
        obtain ⟨hσ17, hfσ17, pσ17⟩ := pσ17
        have Mσ17 : zx_M σ17 := pσ17.2.2.2.2.2.1
        have Wσ17 : zx_W σ17 := pσ17.2.2.2.2.2.2
        have hFσ17 : ∀ a i : Int, (¬ (a = 0 ∧ i = 30) ∧ a ≠ 18) → σ17 a i = σ a i := fun a i h => (hfσ17 a i ⟨h.1, h.2⟩).trans (hFσ_4 a i h)
        have t5 := zx_g30 hσ_4
        have t6 := zx_g30 hσ17
        refine zr_if_ge (pc := 20) hV 27 dX12_holes_20 (by decide) (by omega) (fun c7 => ?_) (fun c7 => ?_)
        · show V 27 [some (ZR 0), some (ZI x1_4), some (ZI x2_4)] [ZI x1_4] 41 σ17
          refine zr_iconst (pc := 27) hV 0 dX12_holes_27 rfl ?_
          show V 28 [some (ZR 0), some (ZI x1_4), some (ZI x2_4)] [ZI 0, ZI x1_4] 41 σ17
          refine zr_iadd (pc := 28) hV dX12_holes_28 ?_
          refine zr_istore_n (pc := 29) hV [some (ZR 0), some (ZI (x1_4 + 0)), some (ZI x2_4)] dX12_holes_29 rfl (by decide) rfl rfl ?_
          refine zr_iinc (pc := 30) hV [some (ZR 0), some (ZI (x1_4 + 0)), some (ZI (x2_4 + 1))] (x2_4 + 1) dX12_holes_30 rfl rfl (by decide) rfl rfl ?_
          refine zr_goto (pc := 33) hV 4 dX12_holes_33 (by decide) ?_
          exact ih4 (x1_4 + 0) (x2_4 + 1) σ17 (by omega) (by omega) hσ17 hFσ17 Mσ17 Wσ17 (by omega)
        · show V 23 [some (ZR 0), some (ZI x1_4), some (ZI x2_4)] [ZI x1_4] 41 σ17
          refine zr_iconst (pc := 23) hV 1 dX12_holes_23 rfl ?_
          refine zr_goto (pc := 24) hV 28 dX12_holes_24 (by decide) ?_
          show V 28 [some (ZR 0), some (ZI x1_4), some (ZI x2_4)] [ZI 1, ZI x1_4] 41 σ17
          refine zr_iadd (pc := 28) hV dX12_holes_28 ?_
          refine zr_any (pc := 29) hV (fun y29 hy29 _ => ?_)
          refine zr_istore_n (pc := 29) hV [some (ZR 0), some (ZI y29), some (ZI x2_4)] dX12_holes_29 rfl (by decide) rfl rfl ?_
          refine zr_iinc (pc := 30) hV [some (ZR 0), some (ZI y29), some (ZI (x2_4 + 1))] (x2_4 + 1) dX12_holes_30 rfl rfl (by decide) rfl rfl ?_
          refine zr_goto (pc := 33) hV 4 dX12_holes_33 (by decide) ?_
          exact ih4 y29 (x2_4 + 1) σ17 (by omega) (by omega) hσ17 hFσ17 Mσ17 Wσ17 (by omega)
  exact L4 (4096 - (0 : Int) + 1 : Int).toNat 0 0 σ (by omega) (by omega) hσ (fun a i _ => rfl) Mσ Wσ (by omega)
set_option maxHeartbeats 800000 in
theorem c_X12_holeW {σ : zq_S} (hσ : zx_T σ) (from_ : Int) (q0 : zq_in from_) (Mσ : zx_M σ) (Wσ : zx_W σ) : zq_C zx_w yX12_hole cX12_hole 3 (some .int) 3 69 41 41 [ZR 0, ZI from_] σ (zq_pi (fun r τ => zx_T τ ∧ (∀ a i : Int, (¬ (a = 0 ∧ i = 30) ∧ a ≠ 18) → τ a i = σ a i) ∧ (True) ∧ zx_M τ ∧ zx_W τ)) := by
  refine zq_C_of (by decide) (Nat.le_refl _) (Nat.le_of_ble_eq_true rfl) [some (ZR 0), some (ZI from_), none] rfl (fun V hV => ?_)
  show V 0 [some (ZR 0), some (ZI from_), none] [] 41 σ
  refine zr_aload_n (pc := 0) hV dX12_hole_0 rfl rfl ?_
  refine zr_iload_n (pc := 1) hV dX12_hole_1 rfl rfl ?_
  refine zr_callVp (pc := 2) hV [ZI from_] (st := []) (c_X12_isBits (σ := σ) hσ from_ (by omega)) dX12_hole_2 mX12_280 rfl (by decide) (by decide) (Nat.le_of_ble_eq_true rfl) (Nat.le_refl _) (fun r2 hr2 pr2 => ?_)
  have t1 := zx_g2 hσ
  refine zr_if_ne (pc := 5) hV 10 dX12_hole_5 (by decide) (by omega) (fun c2 => ?_) (fun c2 => ?_)
  · show V 10 [some (ZR 0), some (ZI from_), none] [] 41 σ
    refine zr_iload_n (pc := 10) hV dX12_hole_10 rfl rfl ?_
    refine zr_istore_n (pc := 11) hV [some (ZR 0), some (ZI from_), some (ZI from_)] dX12_hole_11 rfl (by decide) rfl rfl ?_
    have L12 : ∀ (fuel : Nat) (x2_12 : Int) (σ_12 : zq_S), (0 ≤ x2_12 ∧ x2_12 ≤ 4096) → (zx_T σ_12) → (∀ a i : Int, (¬ (a = 0 ∧ i = 30) ∧ a ≠ 18) → σ_12 a i = σ a i) → (zx_M σ_12) → (zx_W σ_12) → 4096 - x2_12 < (fuel : Int) → V 12 [some (ZR 0), none, some (ZI x2_12)] [] 41 σ_12 := by
      intro fuel
      induction fuel with
      | zero =>
        intro x2_12 σ_12 hx2_12 hσ_12 hFσ_12 Mσ_12 Wσ_12 hm12
        exfalso; omega
      | succ fuel ih =>
        intro x2_12 σ_12 hx2_12 hσ_12 hFσ_12 Mσ_12 Wσ_12 hm12
        have ih12 := ih
        show V 12 [some (ZR 0), none, some (ZI x2_12)] [] 41 σ_12
        refine zr_iload_n (pc := 12) hV dX12_hole_12 rfl rfl ?_
        refine zr_iconst (pc := 13) hV 1 dX12_hole_13 rfl ?_
        refine zr_aload_n (pc := 14) hV dX12_hole_14 rfl rfl ?_
        refine zr_getI (pc := 15) hV 2 dX12_hole_15 fX12_16 rfl rfl rfl (by decide) ?_
        have t3 := zx_g2 hσ_12
        have t4 : σ_12 0 2 = σ 0 2 := hFσ_12 _ _ (by omega)
        refine zr_ishl (pc := 18) hV dX12_hole_18 ?_
        have t5 := zx_shl_one (y := σ_12 0 2) 12 4096 (by decide) (by decide) (by omega)
        refine zr_icmp_ge (pc := 19) hV 38 dX12_hole_19 (by decide) (by omega) (by omega) (fun c6 => ?_) (fun c6 => ?_)
        · show V 38 [some (ZR 0), none, some (ZI x2_12)] [] 41 σ_12
          refine zr_bipush (pc := 38) hV (-4) dX12_hole_38 (by decide) ?_
          exact zr_iret (pc := 40) hV dX12_hole_40 rfl rfl ⟨_, rfl, ⟨by decide, by decide⟩, hσ_12, hFσ_12, trivial, Mσ_12, Wσ_12⟩
        · show V 22 [some (ZR 0), none, some (ZI x2_12)] [] 41 σ_12
          refine zr_aload_n (pc := 22) hV dX12_hole_22 rfl rfl ?_
          refine zr_iload_n (pc := 23) hV dX12_hole_23 rfl rfl ?_
          refine zr_callVi (pc := 24) hV [ZI x2_12] (st := []) (c_X12_ownerOf2 (σ := σ_12) hσ_12 x2_12 (by omega) Mσ_12 Wσ_12) dX12_hole_24 mX12_283 rfl (by decide) (by decide) (Nat.le_of_ble_eq_true rfl) (Nat.le_refl _) (fun r24 σ24 hr24 pσ24 => ?_)
          obtain ⟨hσ24, hfσ24, pσ24⟩ := pσ24
          have Mσ24 : zx_M σ24 := pσ24.2.2.2.2.2.1
          have Wσ24 : zx_W σ24 := pσ24.2.2.2.2.2.2
          have hFσ24 : ∀ a i : Int, (¬ (a = 0 ∧ i = 30) ∧ a ≠ 18) → σ24 a i = σ a i := fun a i h => (hfσ24 a i ⟨h.1, h.2⟩).trans (hFσ_12 a i h)
          have t7 := zx_g30 hσ_12
          have t8 := zx_g30 hσ24
          refine zr_if_ge (pc := 27) hV 32 dX12_hole_27 (by decide) (by omega) (fun c9 => ?_) (fun c9 => ?_)
          · show V 32 [some (ZR 0), none, some (ZI x2_12)] [] 41 σ24
            refine zr_iinc (pc := 32) hV [some (ZR 0), none, some (ZI (x2_12 + 1))] (x2_12 + 1) dX12_hole_32 rfl rfl (by decide) rfl rfl ?_
            refine zr_goto (pc := 35) hV 12 dX12_hole_35 (by decide) ?_
            exact ih12 (x2_12 + 1) σ24 (by omega) hσ24 hFσ24 Mσ24 Wσ24 (by omega)
          · show V 30 [some (ZR 0), none, some (ZI x2_12)] [] 41 σ24
            refine zr_iload_n (pc := 30) hV dX12_hole_30 rfl rfl ?_
            exact zr_iret (pc := 31) hV dX12_hole_31 rfl rfl ⟨_, rfl, (by omega), hσ24, hFσ24, trivial, Mσ24, Wσ24⟩
    refine zr_sub (pc := 12) hV [some (ZR 0), none, some (ZI from_)] (⟨rfl, rfl, trivial⟩) ?_
    exact L12 (4096 - from_ + 1 : Int).toNat from_ σ (by omega) hσ (fun a i _ => rfl) Mσ Wσ (by omega)
  · show V 8 [some (ZR 0), some (ZI from_), none] [] 41 σ
    refine zr_iconst (pc := 8) hV (-1) dX12_hole_8 rfl ?_
    exact zr_iret (pc := 9) hV dX12_hole_9 rfl rfl ⟨_, rfl, ⟨by decide, by decide⟩, hσ, (fun a i _ => rfl), trivial, Mσ, Wσ⟩
set_option maxHeartbeats 800000 in
theorem c_X12_textW {σ : zq_S} (hσ : zx_T σ) (bits n : Int) (q0 : zq_in bits) (q1 : zq_in n) (Mσ : zx_M σ) (Oσ : zx_O σ) (Wσ : zx_W σ) : zq_C zx_w yX12_text cX12_text 4 (some .int) 3 72 41 41 [ZR 0, ZI bits, ZI n] σ (zq_pi (fun r τ => zx_T τ ∧ (∀ a i : Int, (¬ (a = 0 ∧ i = 30) ∧ ¬ (a = 0 ∧ i = 34) ∧ a ≠ 18 ∧ a ≠ 20) → τ a i = σ a i) ∧ (True) ∧ zx_M τ ∧ zx_O τ ∧ zx_W τ)) := by
  refine zq_C_of (by decide) (Nat.le_refl _) (Nat.le_of_ble_eq_true rfl) [some (ZR 0), some (ZI bits), some (ZI n), none] rfl (fun V hV => ?_)
  show V 0 [some (ZR 0), some (ZI bits), some (ZI n), none] [] 41 σ
  refine zr_aload_n (pc := 0) hV dX12_text_0 rfl rfl ?_
  refine zr_iload_n (pc := 1) hV dX12_text_1 rfl rfl ?_
  refine zr_callVp (pc := 2) hV [ZI bits] (st := []) (c_X12_isBits (σ := σ) hσ bits (by omega)) dX12_text_2 mX12_280 rfl (by decide) (by decide) (Nat.le_of_ble_eq_true rfl) (Nat.le_refl _) (fun r2 hr2 pr2 => ?_)
  have t1 := zx_g2 hσ
  refine zr_if_eq (pc := 5) hV 13 dX12_text_5 (by decide) (by omega) (fun c2 => ?_) (fun c2 => ?_)
  · show V 13 [some (ZR 0), some (ZI bits), some (ZI n), none] [] 41 σ
    refine zr_iconst (pc := 13) hV (-1) dX12_text_13 rfl ?_
    exact zr_iret (pc := 14) hV dX12_text_14 rfl rfl ⟨_, rfl, ⟨by decide, by decide⟩, hσ, (fun a i _ => rfl), trivial, Mσ, Oσ, Wσ⟩
  · show V 8 [some (ZR 0), some (ZI bits), some (ZI n), none] [] 41 σ
    refine zr_iload_n (pc := 8) hV dX12_text_8 rfl rfl ?_
    refine zr_iconst (pc := 9) hV (-1) dX12_text_9 rfl ?_
    refine zr_icmp_ge (pc := 10) hV 15 dX12_text_10 (by decide) (by omega) ⟨by decide, by decide⟩ (fun c3 => ?_) (fun c3 => ?_)
    · show V 15 [some (ZR 0), some (ZI bits), some (ZI n), none] [] 41 σ
      refine zr_aload_n (pc := 15) hV dX12_text_15 rfl rfl ?_
      refine zr_iload_n (pc := 16) hV dX12_text_16 rfl rfl ?_
      refine zr_callVi (pc := 17) hV [ZI bits] (st := []) (c_X12_ownerOf2 (σ := σ) hσ bits (by omega) Mσ Wσ) dX12_text_17 mX12_283 rfl (by decide) (by decide) (Nat.le_of_ble_eq_true rfl) (Nat.le_refl _) (fun r17 σ17 hr17 pσ17 => ?_)
      obtain ⟨hσ17, hfσ17, pσ17⟩ := pσ17
      have Mσ17 : zx_M σ17 := pσ17.2.2.2.2.2.1
      have Oσ17 : zx_O σ17 := zx_O_fr (fun i => hfσ17 2 i (by omega)) (fun i => hfσ17 5 i (by omega)) (fun i => hfσ17 6 i (by omega)) (hfσ17 0 2 (by omega)) (hfσ17 0 3 (by omega)) Oσ
      have Wσ17 : zx_W σ17 := pσ17.2.2.2.2.2.2
      have hFσ17 : ∀ a i : Int, (¬ (a = 0 ∧ i = 30) ∧ ¬ (a = 0 ∧ i = 34) ∧ a ≠ 18 ∧ a ≠ 20) → σ17 a i = σ a i := fun a i h => (hfσ17 a i ⟨h.1, h.2.2.1⟩)
      have t4 := zx_g30 hσ
      have t5 := zx_g30 hσ17
      have zo : σ17 18 bits < σ17 0 3 := Mσ17 pσ17.2.2.2.1 bits (by omega) (by rw [hfσ17 0 2 (by omega)]; omega)
      have z3 := hfσ17 0 3 (by omega)
      have z33 := zx_g3 hσ
      refine zr_istore_n (pc := 20) hV [some (ZR 0), some (ZI bits), some (ZI n), some (ZI r17)] dX12_text_20 rfl (by decide) rfl rfl ?_
      refine zr_iload_n (pc := 21) hV dX12_text_21 rfl rfl ?_
      refine zr_if_ge (pc := 22) hV 28 dX12_text_22 (by decide) (by omega) (fun c6 => ?_) (fun c6 => ?_)
      · show V 28 [some (ZR 0), some (ZI bits), some (ZI n), some (ZI r17)] [] 41 σ17
        refine zr_aload_n (pc := 28) hV dX12_text_28 rfl rfl ?_
        refine zr_iload_n (pc := 29) hV dX12_text_29 rfl rfl ?_
        refine zr_iload_n (pc := 30) hV dX12_text_30 rfl rfl ?_
        refine zr_callVv (pc := 31) hV [ZI r17, ZI bits] (st := []) (c_X12_writeLine (σ := σ17) hσ17 r17 bits (by omega) (by omega) (zx_B_fr (fun i => hFσ17 2 i (by omega)) (hFσ17 0 2 (by omega)) (Oσ r17 (by omega) (by omega)).2)) dX12_text_31 mX12_403 rfl (by decide) (by decide) (Nat.le_of_ble_eq_true rfl) (Nat.le_refl _) (fun σ31 pσ31 => ?_)
        obtain ⟨hσ31, hfσ31, pσ31⟩ := pσ31
        have Mσ31 : zx_M σ31 := zx_M_fr (fun i => hfσ31 18 i (by omega)) (hfσ31 0 30 (by omega)) (hfσ31 0 2 (by omega)) (hfσ31 0 3 (by omega)) Mσ17
        have Oσ31 : zx_O σ31 := zx_O_fr (fun i => hfσ31 2 i (by omega)) (fun i => hfσ31 5 i (by omega)) (fun i => hfσ31 6 i (by omega)) (hfσ31 0 2 (by omega)) (hfσ31 0 3 (by omega)) Oσ17
        have Wσ31 : zx_W σ31 := zx_W_fr (fun i => hfσ31 18 i (by omega)) (hfσ31 0 30 (by omega)) (hfσ31 0 2 (by omega)) (hfσ31 0 3 (by omega)) (fun i => hfσ31 2 i (by omega)) Wσ17
        have hFσ31 : ∀ a i : Int, (¬ (a = 0 ∧ i = 30) ∧ ¬ (a = 0 ∧ i = 34) ∧ a ≠ 18 ∧ a ≠ 20) → σ31 a i = σ a i := fun a i h => (hfσ31 a i ⟨h.2.1, h.2.2.2⟩).trans (hFσ17 a i h)
        refine zr_iload_n (pc := 34) hV dX12_text_34 rfl rfl ?_
        refine zr_if_ge (pc := 35) hV 45 dX12_text_35 (by decide) (by omega) (fun c7 => ?_) (fun c7 => ?_)
        · show V 45 [some (ZR 0), some (ZI bits), some (ZI n), some (ZI r17)] [] 41 σ31
          refine zr_iload_n (pc := 45) hV dX12_text_45 rfl rfl ?_
          refine zr_aload_n (pc := 46) hV dX12_text_46 rfl rfl ?_
          refine zr_getI (pc := 47) hV 34 dX12_text_47 fX12_396 rfl rfl rfl (by decide) ?_
          have t8 := zx_g34 hσ31
          refine zr_icmp_ge (pc := 50) hV 62 dX12_text_50 (by decide) (by omega) (by omega) (fun c9 => ?_) (fun c9 => ?_)
          · show V 62 [some (ZR 0), some (ZI bits), some (ZI n), some (ZI r17)] [] 41 σ31
            refine zr_iconst (pc := 62) hV (-1) dX12_text_62 rfl ?_
            show V 63 [some (ZR 0), some (ZI bits), some (ZI n), some (ZI r17)] [ZI (-1)] 41 σ31
            exact zr_iret (pc := 63) hV dX12_text_63 rfl rfl ⟨_, rfl, ⟨by decide, by decide⟩, hσ31, hFσ31, trivial, Mσ31, Oσ31, Wσ31⟩
          · show V 53 [some (ZR 0), some (ZI bits), some (ZI n), some (ZI r17)] [] 41 σ31
            refine zr_aload_n (pc := 53) hV dX12_text_53 rfl rfl ?_
            refine zr_getR (pc := 54) hV 33 20 dX12_text_54 fX12_81 rfl rfl rfl (by decide) (zx_g33 hσ31) (by omega) ?_
            refine zr_iload_n (pc := 57) hV dX12_text_57 rfl rfl ?_
            refine zr_iald (pc := 58) hV dX12_text_58 rfl (by decide) rfl (by omega) ?_
            have t10 := zx_ga20 hσ31 n
            refine zr_goto (pc := 59) hV 63 dX12_text_59 (by decide) ?_
            show V 63 [some (ZR 0), some (ZI bits), some (ZI n), some (ZI r17)] [ZI (σ31 20 n)] 41 σ31
            exact zr_iret (pc := 63) hV dX12_text_63 rfl rfl ⟨_, rfl, (by omega), hσ31, hFσ31, trivial, Mσ31, Oσ31, Wσ31⟩
        · show V 38 [some (ZR 0), some (ZI bits), some (ZI n), some (ZI r17)] [] 41 σ31
          refine zr_aload_n (pc := 38) hV dX12_text_38 rfl rfl ?_
          refine zr_getI (pc := 39) hV 34 dX12_text_39 fX12_396 rfl rfl rfl (by decide) ?_
          have t11 := zx_g34 hσ31
          refine zr_goto (pc := 42) hV 63 dX12_text_42 (by decide) ?_
          show V 63 [some (ZR 0), some (ZI bits), some (ZI n), some (ZI r17)] [ZI (σ31 0 34)] 41 σ31
          exact zr_iret (pc := 63) hV dX12_text_63 rfl rfl ⟨_, rfl, (by omega), hσ31, hFσ31, trivial, Mσ31, Oσ31, Wσ31⟩
      · show V 25 [some (ZR 0), some (ZI bits), some (ZI n), some (ZI r17)] [] 41 σ17
        refine zr_bipush (pc := 25) hV (-4) dX12_text_25 (by decide) ?_
        exact zr_iret (pc := 27) hV dX12_text_27 rfl rfl ⟨_, rfl, ⟨by decide, by decide⟩, hσ17, hFσ17, trivial, Mσ17, Oσ17, Wσ17⟩
    · show V 13 [some (ZR 0), some (ZI bits), some (ZI n), none] [] 41 σ
      refine zr_iconst (pc := 13) hV (-1) dX12_text_13 rfl ?_
      exact zr_iret (pc := 14) hV dX12_text_14 rfl rfl ⟨_, rfl, ⟨by decide, by decide⟩, hσ, (fun a i _ => rfl), trivial, Mσ, Oσ, Wσ⟩
set_option maxHeartbeats 800000 in
theorem c_X12_likeFieldsW {σ : zq_S} (hσ : zx_T σ) (one other : Int) (q0 : 0 ≤ one ∧ one ≤ 4095) (q1 : 0 ≤ other ∧ other ≤ 4095) (q2 : σ 0 30 = 1) (q3 : 0 ≤ σ 18 one ∧ σ 18 one < σ 0 3) (q4 : 0 ≤ σ 18 other ∧ σ 18 other < σ 0 3) (Mσ : zx_M σ) (Oσ : zx_O σ) (Wσ : zx_W σ) : zq_C zx_w yX12_likeFields cX12_likeFields 7 (some .boolean) 3 69 41 41 [ZR 0, ZI one, ZI other] σ (zq_pi (fun r τ => zx_T τ ∧ (∀ a i : Int, (¬ (a = 0 ∧ i = 30) ∧ a ≠ 18) → τ a i = σ a i) ∧ ((r = 0 ∨ r = 1)) ∧ zx_M τ ∧ zx_O τ ∧ zx_W τ)) := by
  refine zq_C_of (by decide) (Nat.le_refl _) (Nat.le_of_ble_eq_true rfl) [some (ZR 0), some (ZI one), some (ZI other), none, none, none, none] rfl (fun V hV => ?_)
  show V 0 [some (ZR 0), some (ZI one), some (ZI other), none, none, none, none] [] 41 σ
  refine zr_aload_n (pc := 0) hV dX12_likeFields_0 rfl rfl ?_
  refine zr_iload_n (pc := 1) hV dX12_likeFields_1 rfl rfl ?_
  refine zr_callVi (pc := 2) hV [ZI one] (st := []) (c_X12_ownerOf2 (σ := σ) hσ one (by omega) Mσ Wσ) dX12_likeFields_2 mX12_283 rfl (by decide) (by decide) (Nat.le_of_ble_eq_true rfl) (Nat.le_refl _) (fun r2 σ2 hr2 pσ2 => ?_)
  obtain ⟨hσ2, hfσ2, pσ2⟩ := pσ2
  have Mσ2 : zx_M σ2 := pσ2.2.2.2.2.2.1
  have Oσ2 : zx_O σ2 := zx_O_fr (fun i => hfσ2 2 i (by omega)) (fun i => hfσ2 5 i (by omega)) (fun i => hfσ2 6 i (by omega)) (hfσ2 0 2 (by omega)) (hfσ2 0 3 (by omega)) Oσ
  have Wσ2 : zx_W σ2 := pσ2.2.2.2.2.2.2
  have hFσ2 : ∀ a i : Int, (¬ (a = 0 ∧ i = 30) ∧ a ≠ 18) → σ2 a i = σ a i := fun a i h => (hfσ2 a i ⟨h.1, h.2⟩)
  have t1 := zx_g30 hσ
  have t2 := zx_g30 hσ2
  have y1 := pσ2.2.2.2.2.1 (by omega) one
  have y2 := pσ2.2.2.2.2.1 (by omega) other
  refine zr_istore_n (pc := 5) hV [some (ZR 0), some (ZI one), some (ZI other), some (ZI r2), none, none, none] dX12_likeFields_5 rfl (by decide) rfl rfl ?_
  refine zr_aload_n (pc := 6) hV dX12_likeFields_6 rfl rfl ?_
  refine zr_iload_n (pc := 7) hV dX12_likeFields_7 rfl rfl ?_
  refine zr_callVi (pc := 8) hV [ZI other] (st := []) (c_X12_ownerOf2 (σ := σ2) hσ2 other (by omega) Mσ2 Wσ2) dX12_likeFields_8 mX12_283 rfl (by decide) (by decide) (Nat.le_of_ble_eq_true rfl) (Nat.le_refl _) (fun r8 σ8 hr8 pσ8 => ?_)
  obtain ⟨hσ8, hfσ8, pσ8⟩ := pσ8
  have Mσ8 : zx_M σ8 := pσ8.2.2.2.2.2.1
  have Oσ8 : zx_O σ8 := zx_O_fr (fun i => hfσ8 2 i (by omega)) (fun i => hfσ8 5 i (by omega)) (fun i => hfσ8 6 i (by omega)) (hfσ8 0 2 (by omega)) (hfσ8 0 3 (by omega)) Oσ2
  have Wσ8 : zx_W σ8 := pσ8.2.2.2.2.2.2
  have hFσ8 : ∀ a i : Int, (¬ (a = 0 ∧ i = 30) ∧ a ≠ 18) → σ8 a i = σ a i := fun a i h => (hfσ8 a i ⟨h.1, h.2⟩).trans (hFσ2 a i h)
  have t3 := zx_g30 hσ2
  have t4 := zx_g30 hσ8
  have y3 := pσ8.2.2.2.2.1 (by omega) other
  have y4 := zx_g3 hσ
  refine zr_istore (pc := 11) hV [some (ZR 0), some (ZI one), some (ZI other), some (ZI r2), some (ZI r8), none, none] dX12_likeFields_11 (by decide) rfl rfl ?_
  refine zr_iconst (pc := 13) hV 1 dX12_likeFields_13 rfl ?_
  refine zr_istore (pc := 14) hV [some (ZR 0), some (ZI one), some (ZI other), some (ZI r2), some (ZI r8), some (ZI 1), none] dX12_likeFields_14 (by decide) rfl rfl ?_
  refine zr_iconst (pc := 16) hV 0 dX12_likeFields_16 rfl ?_
  refine zr_istore (pc := 17) hV [some (ZR 0), some (ZI one), some (ZI other), some (ZI r2), some (ZI r8), some (ZI 1), some (ZI 0)] dX12_likeFields_17 (by decide) rfl rfl ?_
  have L19 : ∀ (fuel : Nat) (x5_19 : Int) (x6_19 : Int), (0 ≤ x5_19 ∧ x5_19 ≤ 1) → (0 ≤ x6_19 ∧ x6_19 ≤ 4) → 4 - x6_19 < (fuel : Int) → V 19 [some (ZR 0), some (ZI one), some (ZI other), some (ZI r2), some (ZI r8), some (ZI x5_19), some (ZI x6_19)] [] 41 σ8 := by
    intro fuel
    induction fuel with
    | zero =>
      intro x5_19 x6_19 hx5_19 hx6_19 hm19
      exfalso; omega
    | succ fuel ih =>
      intro x5_19 x6_19 hx5_19 hx6_19 hm19
      have ih19 := ih
      show V 19 [some (ZR 0), some (ZI one), some (ZI other), some (ZI r2), some (ZI r8), some (ZI x5_19), some (ZI x6_19)] [] 41 σ8
      refine zr_iload (pc := 19) hV dX12_likeFields_19 rfl ?_
      refine zr_iconst (pc := 21) hV 4 dX12_likeFields_21 rfl ?_
      refine zr_icmp_ge (pc := 22) hV 84 dX12_likeFields_22 (by decide) (by omega) ⟨by decide, by decide⟩ (fun c5 => ?_) (fun c5 => ?_)
      · show V 84 [some (ZR 0), some (ZI one), some (ZI other), some (ZI r2), some (ZI r8), some (ZI x5_19), some (ZI x6_19)] [] 41 σ8
        refine zr_iload (pc := 84) hV dX12_likeFields_84 rfl ?_
        exact zr_zret (pc := 86) hV dX12_likeFields_86 rfl rfl (by omega) ⟨_, rfl, (by omega), hσ8, hFσ8, (by omega), Mσ8, Oσ8, Wσ8⟩
      · show V 25 [some (ZR 0), some (ZI one), some (ZI other), some (ZI r2), some (ZI r8), some (ZI x5_19), some (ZI x6_19)] [] 41 σ8
        refine zr_iload (pc := 25) hV dX12_likeFields_25 rfl ?_
        refine zr_if_eq (pc := 27) hV 75 dX12_likeFields_27 (by decide) (by omega) (fun c6 => ?_) (fun c6 => ?_)
        · show V 75 [some (ZR 0), some (ZI one), some (ZI other), some (ZI r2), some (ZI r8), some (ZI x5_19), some (ZI x6_19)] [] 41 σ8
          refine zr_iconst (pc := 75) hV 0 dX12_likeFields_75 rfl ?_
          show V 76 [some (ZR 0), some (ZI one), some (ZI other), some (ZI r2), some (ZI r8), some (ZI x5_19), some (ZI x6_19)] [ZI 0] 41 σ8
          refine zr_istore (pc := 76) hV [some (ZR 0), some (ZI one), some (ZI other), some (ZI r2), some (ZI r8), some (ZI 0), some (ZI x6_19)] dX12_likeFields_76 (by decide) rfl rfl ?_
          refine zr_iinc (pc := 78) hV [some (ZR 0), some (ZI one), some (ZI other), some (ZI r2), some (ZI r8), some (ZI 0), some (ZI (x6_19 + 1))] (x6_19 + 1) dX12_likeFields_78 rfl rfl (by decide) rfl rfl ?_
          refine zr_goto (pc := 81) hV 19 dX12_likeFields_81 (by decide) ?_
          exact ih19 0 (x6_19 + 1) (by omega) (by omega) (by omega)
        · show V 30 [some (ZR 0), some (ZI one), some (ZI other), some (ZI r2), some (ZI r8), some (ZI x5_19), some (ZI x6_19)] [] 41 σ8
          refine zr_aload_n (pc := 30) hV dX12_likeFields_30 rfl rfl ?_
          refine zr_iload_n (pc := 31) hV dX12_likeFields_31 rfl rfl ?_
          refine zr_iload (pc := 32) hV dX12_likeFields_32 rfl ?_
          refine zr_callVp (pc := 34) hV [ZI r2, ZI x6_19] (st := []) (c_X12_hasField (σ := σ8) hσ8 r2 x6_19 (by omega) (by omega)) dX12_likeFields_34 mX12_188 rfl (by decide) (by decide) (Nat.le_of_ble_eq_true rfl) (Nat.le_refl _) (fun r34 hr34 pr34 => ?_)
          have t7 := zx_g2 hσ8
          have t8 : σ8 0 2 = σ2 0 2 := hfσ8 _ _ (by omega)
          have t9 : σ2 0 2 = σ 0 2 := hfσ2 _ _ (by omega)
          refine zr_if_eq (pc := 37) hV 71 dX12_likeFields_37 (by decide) (by omega) (fun c10 => ?_) (fun c10 => ?_)
          · show V 71 [some (ZR 0), some (ZI one), some (ZI other), some (ZI r2), some (ZI r8), some (ZI x5_19), some (ZI x6_19)] [] 41 σ8
            refine zr_iconst (pc := 71) hV 1 dX12_likeFields_71 rfl ?_
            refine zr_goto (pc := 72) hV 76 dX12_likeFields_72 (by decide) ?_
            show V 76 [some (ZR 0), some (ZI one), some (ZI other), some (ZI r2), some (ZI r8), some (ZI x5_19), some (ZI x6_19)] [ZI 1] 41 σ8
            refine zr_istore (pc := 76) hV [some (ZR 0), some (ZI one), some (ZI other), some (ZI r2), some (ZI r8), some (ZI 1), some (ZI x6_19)] dX12_likeFields_76 (by decide) rfl rfl ?_
            refine zr_iinc (pc := 78) hV [some (ZR 0), some (ZI one), some (ZI other), some (ZI r2), some (ZI r8), some (ZI 1), some (ZI (x6_19 + 1))] (x6_19 + 1) dX12_likeFields_78 rfl rfl (by decide) rfl rfl ?_
            refine zr_goto (pc := 81) hV 19 dX12_likeFields_81 (by decide) ?_
            exact ih19 1 (x6_19 + 1) (by omega) (by omega) (by omega)
          · show V 40 [some (ZR 0), some (ZI one), some (ZI other), some (ZI r2), some (ZI r8), some (ZI x5_19), some (ZI x6_19)] [] 41 σ8
            refine zr_aload_n (pc := 40) hV dX12_likeFields_40 rfl rfl ?_
            refine zr_iload (pc := 41) hV dX12_likeFields_41 rfl ?_
            refine zr_iload (pc := 43) hV dX12_likeFields_43 rfl ?_
            refine zr_callVp (pc := 45) hV [ZI r8, ZI x6_19] (st := []) (c_X12_hasField (σ := σ8) hσ8 r8 x6_19 (by omega) (by omega)) dX12_likeFields_45 mX12_188 rfl (by decide) (by decide) (Nat.le_of_ble_eq_true rfl) (Nat.le_refl _) (fun r45 hr45 pr45 => ?_)
            have t11 := zx_g2 hσ8
            have t12 : σ8 0 2 = σ2 0 2 := hfσ8 _ _ (by omega)
            have t13 : σ2 0 2 = σ 0 2 := hfσ2 _ _ (by omega)
            refine zr_if_eq (pc := 48) hV 71 dX12_likeFields_48 (by decide) (by omega) (fun c14 => ?_) (fun c14 => ?_)
            · show V 71 [some (ZR 0), some (ZI one), some (ZI other), some (ZI r2), some (ZI r8), some (ZI x5_19), some (ZI x6_19)] [] 41 σ8
              refine zr_iconst (pc := 71) hV 1 dX12_likeFields_71 rfl ?_
              refine zr_goto (pc := 72) hV 76 dX12_likeFields_72 (by decide) ?_
              show V 76 [some (ZR 0), some (ZI one), some (ZI other), some (ZI r2), some (ZI r8), some (ZI x5_19), some (ZI x6_19)] [ZI 1] 41 σ8
              refine zr_istore (pc := 76) hV [some (ZR 0), some (ZI one), some (ZI other), some (ZI r2), some (ZI r8), some (ZI 1), some (ZI x6_19)] dX12_likeFields_76 (by decide) rfl rfl ?_
              refine zr_iinc (pc := 78) hV [some (ZR 0), some (ZI one), some (ZI other), some (ZI r2), some (ZI r8), some (ZI 1), some (ZI (x6_19 + 1))] (x6_19 + 1) dX12_likeFields_78 rfl rfl (by decide) rfl rfl ?_
              refine zr_goto (pc := 81) hV 19 dX12_likeFields_81 (by decide) ?_
              exact ih19 1 (x6_19 + 1) (by omega) (by omega) (by omega)
            · show V 51 [some (ZR 0), some (ZI one), some (ZI other), some (ZI r2), some (ZI r8), some (ZI x5_19), some (ZI x6_19)] [] 41 σ8
              refine zr_aload_n (pc := 51) hV dX12_likeFields_51 rfl rfl ?_
              refine zr_iload_n (pc := 52) hV dX12_likeFields_52 rfl rfl ?_
              refine zr_iload_n (pc := 53) hV dX12_likeFields_53 rfl rfl ?_
              refine zr_iload (pc := 54) hV dX12_likeFields_54 rfl ?_
              refine zr_callVp (pc := 56) hV [ZI r2, ZI one, ZI x6_19] (st := []) (c_X12_fieldOf (σ := σ8) hσ8 r2 one x6_19 (by omega) (by omega) (by omega) (zx_B_fr (fun i => hFσ8 2 i (by omega)) (hFσ8 0 2 (by omega)) (Oσ r2 (by omega) (by omega)).2)) dX12_likeFields_56 mX12_289 rfl (by decide) (by decide) (Nat.le_of_ble_eq_true rfl) (Nat.le_refl _) (fun r56 hr56 pr56 => ?_)
              refine zr_aload_n (pc := 59) hV dX12_likeFields_59 rfl rfl ?_
              refine zr_iload (pc := 60) hV dX12_likeFields_60 rfl ?_
              refine zr_iload_n (pc := 62) hV dX12_likeFields_62 rfl rfl ?_
              refine zr_iload (pc := 63) hV dX12_likeFields_63 rfl ?_
              refine zr_callVp (pc := 65) hV [ZI r8, ZI other, ZI x6_19] (st := [ZI r56]) (c_X12_fieldOf (σ := σ8) hσ8 r8 other x6_19 (by omega) (by omega) (by omega) (zx_B_fr (fun i => hFσ8 2 i (by omega)) (hFσ8 0 2 (by omega)) (Oσ r8 (by omega) (by omega)).2)) dX12_likeFields_65 mX12_289 rfl (by decide) (by decide) (Nat.le_of_ble_eq_true rfl) (Nat.le_refl _) (fun r65 hr65 pr65 => ?_)
              refine zr_icmp_ne (pc := 68) hV 75 dX12_likeFields_68 (by decide) (by omega) (by omega) (fun c15 => ?_) (fun c15 => ?_)
              · show V 75 [some (ZR 0), some (ZI one), some (ZI other), some (ZI r2), some (ZI r8), some (ZI x5_19), some (ZI x6_19)] [] 41 σ8
                refine zr_iconst (pc := 75) hV 0 dX12_likeFields_75 rfl ?_
                show V 76 [some (ZR 0), some (ZI one), some (ZI other), some (ZI r2), some (ZI r8), some (ZI x5_19), some (ZI x6_19)] [ZI 0] 41 σ8
                refine zr_istore (pc := 76) hV [some (ZR 0), some (ZI one), some (ZI other), some (ZI r2), some (ZI r8), some (ZI 0), some (ZI x6_19)] dX12_likeFields_76 (by decide) rfl rfl ?_
                refine zr_iinc (pc := 78) hV [some (ZR 0), some (ZI one), some (ZI other), some (ZI r2), some (ZI r8), some (ZI 0), some (ZI (x6_19 + 1))] (x6_19 + 1) dX12_likeFields_78 rfl rfl (by decide) rfl rfl ?_
                refine zr_goto (pc := 81) hV 19 dX12_likeFields_81 (by decide) ?_
                exact ih19 0 (x6_19 + 1) (by omega) (by omega) (by omega)
              · show V 71 [some (ZR 0), some (ZI one), some (ZI other), some (ZI r2), some (ZI r8), some (ZI x5_19), some (ZI x6_19)] [] 41 σ8
                refine zr_iconst (pc := 71) hV 1 dX12_likeFields_71 rfl ?_
                refine zr_goto (pc := 72) hV 76 dX12_likeFields_72 (by decide) ?_
                show V 76 [some (ZR 0), some (ZI one), some (ZI other), some (ZI r2), some (ZI r8), some (ZI x5_19), some (ZI x6_19)] [ZI 1] 41 σ8
                refine zr_istore (pc := 76) hV [some (ZR 0), some (ZI one), some (ZI other), some (ZI r2), some (ZI r8), some (ZI 1), some (ZI x6_19)] dX12_likeFields_76 (by decide) rfl rfl ?_
                refine zr_iinc (pc := 78) hV [some (ZR 0), some (ZI one), some (ZI other), some (ZI r2), some (ZI r8), some (ZI 1), some (ZI (x6_19 + 1))] (x6_19 + 1) dX12_likeFields_78 rfl rfl (by decide) rfl rfl ?_
                refine zr_goto (pc := 81) hV 19 dX12_likeFields_81 (by decide) ?_
                exact ih19 1 (x6_19 + 1) (by omega) (by omega) (by omega)
  exact L19 (4 - (0 : Int) + 1 : Int).toNat 1 0 (by omega) (by omega) (by omega)
set_option maxHeartbeats 800000 in
theorem c_X12_pairsOfW {σ : zq_S} (hσ : zx_T σ) (a c end_ : Int) (q0 : 0 ≤ a ∧ a < σ 0 3) (q1 : 0 ≤ c ∧ c < σ 0 3) (q2 : 0 ≤ end_ ∧ end_ ≤ 64) (Mσ : zx_M σ) (Oσ : zx_O σ) (Wσ : zx_W σ) : zq_C zx_w yX12_pairsOf cX12_pairsOf 7 (some .int) 4 95 41 41 [ZR 0, ZI a, ZI c, ZI end_] σ (zq_pi (fun r τ => zx_T τ ∧ (∀ a i : Int, (¬ (a = 0 ∧ i = 30) ∧ a ≠ 18) → τ a i = σ a i) ∧ (True) ∧ zx_M τ ∧ zx_O τ ∧ zx_W τ)) := by
  refine zq_C_of (by decide) (Nat.le_refl _) (Nat.le_of_ble_eq_true rfl) [some (ZR 0), some (ZI a), some (ZI c), some (ZI end_), none, none, none] rfl (fun V hV => ?_)
  have z3 := zx_g3 hσ
  show V 0 [some (ZR 0), some (ZI a), some (ZI c), some (ZI end_), none, none, none] [] 41 σ
  refine zr_iconst (pc := 0) hV 0 dX12_pairsOf_0 rfl ?_
  refine zr_istore (pc := 1) hV [some (ZR 0), some (ZI a), some (ZI c), some (ZI end_), some (ZI 0), none, none] dX12_pairsOf_1 (by decide) rfl rfl ?_
  refine zr_iconst (pc := 3) hV 0 dX12_pairsOf_3 rfl ?_
  refine zr_istore (pc := 4) hV [some (ZR 0), some (ZI a), some (ZI c), some (ZI end_), some (ZI 0), some (ZI 0), none] dX12_pairsOf_4 (by decide) rfl rfl ?_
  have L6 : ∀ (fuel : Nat) (x4_6 : Int) (x5_6 : Int) (σ_6 : zq_S), ((-2147483648) ≤ x4_6 ∧ x4_6 ≤ 2147483647) → (0 ≤ x5_6 ∧ x5_6 ≤ 64) → (zx_T σ_6) → (∀ a i : Int, (¬ (a = 0 ∧ i = 30) ∧ a ≠ 18) → σ_6 a i = σ a i) → (zx_M σ_6) → (zx_O σ_6) → (zx_W σ_6) → 65 - x5_6 < (fuel : Int) → V 6 [some (ZR 0), some (ZI a), some (ZI c), some (ZI end_), some (ZI x4_6), some (ZI x5_6), none] [] 41 σ_6 := by
    intro fuel
    induction fuel with
    | zero =>
      intro x4_6 x5_6 σ_6 hx4_6 hx5_6 hσ_6 hFσ_6 Mσ_6 Oσ_6 Wσ_6 hm6
      exfalso; omega
    | succ fuel ih =>
      intro x4_6 x5_6 σ_6 hx4_6 hx5_6 hσ_6 hFσ_6 Mσ_6 Oσ_6 Wσ_6 hm6
      have ih6 := ih
      show V 6 [some (ZR 0), some (ZI a), some (ZI c), some (ZI end_), some (ZI x4_6), some (ZI x5_6), none] [] 41 σ_6
      refine zr_iload (pc := 6) hV dX12_pairsOf_6 rfl ?_
      refine zr_iconst (pc := 8) hV 1 dX12_pairsOf_8 rfl ?_
      refine zr_iadd (pc := 9) hV dX12_pairsOf_9 ?_
      refine zr_iload_n (pc := 10) hV dX12_pairsOf_10 rfl rfl ?_
      refine zr_icmp_ge (pc := 11) hV 109 dX12_pairsOf_11 (by decide) (by omega) (by omega) (fun c1 => ?_) (fun c1 => ?_)
      · show V 109 [some (ZR 0), some (ZI a), some (ZI c), some (ZI end_), some (ZI x4_6), some (ZI x5_6), none] [] 41 σ_6
        refine zr_iload (pc := 109) hV dX12_pairsOf_109 rfl ?_
        exact zr_iret (pc := 111) hV dX12_pairsOf_111 rfl rfl ⟨_, rfl, (by omega), hσ_6, hFσ_6, trivial, Mσ_6, Oσ_6, Wσ_6⟩
      · show V 14 [some (ZR 0), some (ZI a), some (ZI c), some (ZI end_), some (ZI x4_6), some (ZI x5_6), none] [] 41 σ_6
        refine zr_aload_n (pc := 14) hV dX12_pairsOf_14 rfl rfl ?_
        refine zr_aload_n (pc := 15) hV dX12_pairsOf_15 rfl rfl ?_
        refine zr_getR (pc := 16) hV 23 14 dX12_pairsOf_16 fX12_59 rfl rfl rfl (by decide) (zx_g23 hσ_6) (by omega) ?_
        refine zr_iload (pc := 19) hV dX12_pairsOf_19 rfl ?_
        refine zr_iald (pc := 21) hV dX12_pairsOf_21 rfl (by decide) rfl (by omega) ?_
        have t2 := zx_ga14 hσ_6 x5_6
        have t3 : σ_6 14 x5_6 = σ 14 x5_6 := hFσ_6 _ _ (by omega)
        refine zr_callVi (pc := 22) hV [ZI (σ_6 14 x5_6)] (st := []) (c_X12_ownerOf2 (σ := σ_6) hσ_6 (σ_6 14 x5_6) (by omega) Mσ_6 Wσ_6) dX12_pairsOf_22 mX12_283 rfl (by decide) (by decide) (Nat.le_of_ble_eq_true rfl) (Nat.le_refl _) (fun r22 σ22 hr22 pσ22 => ?_)
        obtain ⟨hσ22, hfσ22, pσ22⟩ := pσ22
        have Mσ22 : zx_M σ22 := pσ22.2.2.2.2.2.1
        have Oσ22 : zx_O σ22 := zx_O_fr (fun i => hfσ22 2 i (by omega)) (fun i => hfσ22 5 i (by omega)) (fun i => hfσ22 6 i (by omega)) (hfσ22 0 2 (by omega)) (hfσ22 0 3 (by omega)) Oσ_6
        have Wσ22 : zx_W σ22 := pσ22.2.2.2.2.2.2
        have hFσ22 : ∀ a i : Int, (¬ (a = 0 ∧ i = 30) ∧ a ≠ 18) → σ22 a i = σ a i := fun a i h => (hfσ22 a i ⟨h.1, h.2⟩).trans (hFσ_6 a i h)
        have t4 := zx_g30 hσ_6
        have t5 := zx_g30 hσ22
        refine zr_iload_n (pc := 25) hV dX12_pairsOf_25 rfl rfl ?_
        have J74 : ∀ (v0_74 : Int) (σ_74 : zq_S), (0 ≤ v0_74 ∧ v0_74 ≤ 1) → (zx_T σ_74) → (∀ a i : Int, (¬ (a = 0 ∧ i = 30) ∧ a ≠ 18) → σ_74 a i = σ a i) → (zx_M σ_74) → (zx_O σ_74) → (zx_W σ_74) → V 74 [some (ZR 0), some (ZI a), some (ZI c), some (ZI end_), some (ZI x4_6), some (ZI x5_6), none] [ZI v0_74] 41 σ_74 := by
          intro v0_74 σ_74 hv0_74 hσ_74 hFσ_74 Mσ_74 Oσ_74 Wσ_74
          show V 74 [some (ZR 0), some (ZI a), some (ZI c), some (ZI end_), some (ZI x4_6), some (ZI x5_6), none] [ZI v0_74] 41 σ_74
          refine zr_istore (pc := 74) hV [some (ZR 0), some (ZI a), some (ZI c), some (ZI end_), some (ZI x4_6), some (ZI x5_6), some (ZI v0_74)] dX12_pairsOf_74 (by decide) rfl rfl ?_
          refine zr_iload (pc := 76) hV dX12_pairsOf_76 rfl ?_
          refine zr_iload (pc := 78) hV dX12_pairsOf_78 rfl ?_
          refine zr_if_eq (pc := 80) hV 87 dX12_pairsOf_80 (by decide) (by omega) (fun c6 => ?_) (fun c6 => ?_)
          · show V 87 [some (ZR 0), some (ZI a), some (ZI c), some (ZI end_), some (ZI x4_6), some (ZI x5_6), some (ZI v0_74)] [ZI x4_6] 41 σ_74
            refine zr_iconst (pc := 87) hV 0 dX12_pairsOf_87 rfl ?_
            show V 88 [some (ZR 0), some (ZI a), some (ZI c), some (ZI end_), some (ZI x4_6), some (ZI x5_6), some (ZI v0_74)] [ZI 0, ZI x4_6] 41 σ_74
            refine zr_iadd (pc := 88) hV dX12_pairsOf_88 ?_
            refine zr_istore (pc := 89) hV [some (ZR 0), some (ZI a), some (ZI c), some (ZI end_), some (ZI (x4_6 + 0)), some (ZI x5_6), some (ZI v0_74)] dX12_pairsOf_89 (by decide) rfl rfl ?_
            refine zr_iload (pc := 91) hV dX12_pairsOf_91 rfl ?_
            refine zr_iload (pc := 93) hV dX12_pairsOf_93 rfl ?_
            refine zr_if_eq (pc := 95) hV 102 dX12_pairsOf_95 (by decide) (by omega) (fun c7 => ?_) (fun c7 => ?_)
            · show V 102 [some (ZR 0), some (ZI a), some (ZI c), some (ZI end_), some (ZI (x4_6 + 0)), some (ZI x5_6), some (ZI v0_74)] [ZI x5_6] 41 σ_74
              refine zr_iconst (pc := 102) hV 1 dX12_pairsOf_102 rfl ?_
              show V 103 [some (ZR 0), some (ZI a), some (ZI c), some (ZI end_), some (ZI (x4_6 + 0)), some (ZI x5_6), some (ZI v0_74)] [ZI 1, ZI x5_6] 41 σ_74
              refine zr_iadd (pc := 103) hV dX12_pairsOf_103 ?_
              refine zr_istore (pc := 104) hV [some (ZR 0), some (ZI a), some (ZI c), some (ZI end_), some (ZI (x4_6 + 0)), some (ZI (x5_6 + 1)), some (ZI v0_74)] dX12_pairsOf_104 (by decide) rfl rfl ?_
              refine zr_goto (pc := 106) hV 6 dX12_pairsOf_106 (by decide) ?_
              refine zr_sub (pc := 6) hV [some (ZR 0), some (ZI a), some (ZI c), some (ZI end_), some (ZI (x4_6 + 0)), some (ZI (x5_6 + 1)), none] (⟨rfl, rfl, rfl, rfl, rfl, rfl, trivial⟩) ?_
              exact ih6 (x4_6 + 0) (x5_6 + 1) σ_74 (by omega) (by omega) hσ_74 hFσ_74 Mσ_74 Oσ_74 Wσ_74 (by omega)
            · exfalso; omega
          · show V 83 [some (ZR 0), some (ZI a), some (ZI c), some (ZI end_), some (ZI x4_6), some (ZI x5_6), some (ZI v0_74)] [ZI x4_6] 41 σ_74
            refine zr_iconst (pc := 83) hV 1 dX12_pairsOf_83 rfl ?_
            refine zr_goto (pc := 84) hV 88 dX12_pairsOf_84 (by decide) ?_
            show V 88 [some (ZR 0), some (ZI a), some (ZI c), some (ZI end_), some (ZI x4_6), some (ZI x5_6), some (ZI v0_74)] [ZI 1, ZI x4_6] 41 σ_74
            refine zr_iadd (pc := 88) hV dX12_pairsOf_88 ?_
            refine zr_any (pc := 89) hV (fun y89 hy89 _ => ?_)
            refine zr_istore (pc := 89) hV [some (ZR 0), some (ZI a), some (ZI c), some (ZI end_), some (ZI y89), some (ZI x5_6), some (ZI v0_74)] dX12_pairsOf_89 (by decide) rfl rfl ?_
            refine zr_iload (pc := 91) hV dX12_pairsOf_91 rfl ?_
            refine zr_iload (pc := 93) hV dX12_pairsOf_93 rfl ?_
            refine zr_if_eq (pc := 95) hV 102 dX12_pairsOf_95 (by decide) (by omega) (fun c8 => ?_) (fun c8 => ?_)
            · exfalso; omega
            · show V 98 [some (ZR 0), some (ZI a), some (ZI c), some (ZI end_), some (ZI y89), some (ZI x5_6), some (ZI v0_74)] [ZI x5_6] 41 σ_74
              refine zr_iconst (pc := 98) hV 2 dX12_pairsOf_98 rfl ?_
              refine zr_goto (pc := 99) hV 103 dX12_pairsOf_99 (by decide) ?_
              show V 103 [some (ZR 0), some (ZI a), some (ZI c), some (ZI end_), some (ZI y89), some (ZI x5_6), some (ZI v0_74)] [ZI 2, ZI x5_6] 41 σ_74
              refine zr_iadd (pc := 103) hV dX12_pairsOf_103 ?_
              refine zr_istore (pc := 104) hV [some (ZR 0), some (ZI a), some (ZI c), some (ZI end_), some (ZI y89), some (ZI (x5_6 + 2)), some (ZI v0_74)] dX12_pairsOf_104 (by decide) rfl rfl ?_
              refine zr_goto (pc := 106) hV 6 dX12_pairsOf_106 (by decide) ?_
              refine zr_sub (pc := 6) hV [some (ZR 0), some (ZI a), some (ZI c), some (ZI end_), some (ZI y89), some (ZI (x5_6 + 2)), none] (⟨rfl, rfl, rfl, rfl, rfl, rfl, trivial⟩) ?_
              exact ih6 y89 (x5_6 + 2) σ_74 (by omega) (by omega) hσ_74 hFσ_74 Mσ_74 Oσ_74 Wσ_74 (by omega)
        have J73 : ∀ (σ_73 : zq_S), (zx_T σ_73) → (∀ a i : Int, (¬ (a = 0 ∧ i = 30) ∧ a ≠ 18) → σ_73 a i = σ a i) → (zx_M σ_73) → (zx_O σ_73) → (zx_W σ_73) → V 73 [some (ZR 0), some (ZI a), some (ZI c), some (ZI end_), some (ZI x4_6), some (ZI x5_6), none] [] 41 σ_73 := by
          intro σ_73 hσ_73 hFσ_73 Mσ_73 Oσ_73 Wσ_73
          show V 73 [some (ZR 0), some (ZI a), some (ZI c), some (ZI end_), some (ZI x4_6), some (ZI x5_6), none] [] 41 σ_73
          refine zr_iconst (pc := 73) hV 0 dX12_pairsOf_73 rfl ?_
          exact J74 0 σ_73 (by omega) hσ_73 hFσ_73 Mσ_73 Oσ_73 Wσ_73
        refine zr_icmp_ne (pc := 26) hV 73 dX12_pairsOf_26 (by decide) (by omega) (by omega) (fun c9 => ?_) (fun c9 => ?_)
        · exact J73 σ22 hσ22 hFσ22 Mσ22 Oσ22 Wσ22
        · show V 29 [some (ZR 0), some (ZI a), some (ZI c), some (ZI end_), some (ZI x4_6), some (ZI x5_6), none] [] 41 σ22
          refine zr_aload_n (pc := 29) hV dX12_pairsOf_29 rfl rfl ?_
          refine zr_aload_n (pc := 30) hV dX12_pairsOf_30 rfl rfl ?_
          refine zr_getR (pc := 31) hV 23 14 dX12_pairsOf_31 fX12_59 rfl rfl rfl (by decide) (zx_g23 hσ22) (by omega) ?_
          refine zr_iload (pc := 34) hV dX12_pairsOf_34 rfl ?_
          refine zr_iconst (pc := 36) hV 1 dX12_pairsOf_36 rfl ?_
          refine zr_iadd (pc := 37) hV dX12_pairsOf_37 ?_
          refine zr_iald (pc := 38) hV dX12_pairsOf_38 rfl (by decide) rfl (by omega) ?_
          have t10 := zx_ga14 hσ22 (x5_6 + 1)
          have t11 : σ22 14 (x5_6 + 1) = σ_6 14 (x5_6 + 1) := hfσ22 _ _ (by omega)
          have t12 : σ_6 14 (x5_6 + 1) = σ 14 (x5_6 + 1) := hFσ_6 _ _ (by omega)
          refine zr_callVi (pc := 39) hV [ZI (σ22 14 (x5_6 + 1))] (st := []) (c_X12_ownerOf2 (σ := σ22) hσ22 (σ22 14 (x5_6 + 1)) (by omega) Mσ22 Wσ22) dX12_pairsOf_39 mX12_283 rfl (by decide) (by decide) (Nat.le_of_ble_eq_true rfl) (Nat.le_refl _) (fun r39 σ39 hr39 pσ39 => ?_)
          obtain ⟨hσ39, hfσ39, pσ39⟩ := pσ39
          have Mσ39 : zx_M σ39 := pσ39.2.2.2.2.2.1
          have Oσ39 : zx_O σ39 := zx_O_fr (fun i => hfσ39 2 i (by omega)) (fun i => hfσ39 5 i (by omega)) (fun i => hfσ39 6 i (by omega)) (hfσ39 0 2 (by omega)) (hfσ39 0 3 (by omega)) Oσ22
          have Wσ39 : zx_W σ39 := pσ39.2.2.2.2.2.2
          have hFσ39 : ∀ a i : Int, (¬ (a = 0 ∧ i = 30) ∧ a ≠ 18) → σ39 a i = σ a i := fun a i h => (hfσ39 a i ⟨h.1, h.2⟩).trans (hFσ22 a i h)
          have t13 := zx_g30 hσ22
          have t14 := zx_g30 hσ39
          refine zr_iload_n (pc := 42) hV dX12_pairsOf_42 rfl rfl ?_
          refine zr_icmp_ne (pc := 43) hV 73 dX12_pairsOf_43 (by decide) (by omega) (by omega) (fun c15 => ?_) (fun c15 => ?_)
          · exact J73 σ39 hσ39 hFσ39 Mσ39 Oσ39 Wσ39
          · show V 46 [some (ZR 0), some (ZI a), some (ZI c), some (ZI end_), some (ZI x4_6), some (ZI x5_6), none] [] 41 σ39
            refine zr_aload_n (pc := 46) hV dX12_pairsOf_46 rfl rfl ?_
            refine zr_aload_n (pc := 47) hV dX12_pairsOf_47 rfl rfl ?_
            refine zr_getR (pc := 48) hV 23 14 dX12_pairsOf_48 fX12_59 rfl rfl rfl (by decide) (zx_g23 hσ39) (by omega) ?_
            refine zr_iload (pc := 51) hV dX12_pairsOf_51 rfl ?_
            refine zr_iald (pc := 53) hV dX12_pairsOf_53 rfl (by decide) rfl (by omega) ?_
            have t16 := zx_ga14 hσ39 x5_6
            have t17 : σ39 14 x5_6 = σ22 14 x5_6 := hfσ39 _ _ (by omega)
            have t18 : σ22 14 x5_6 = σ_6 14 x5_6 := hfσ22 _ _ (by omega)
            have t19 : σ_6 14 x5_6 = σ 14 x5_6 := hFσ_6 _ _ (by omega)
            refine zr_aload_n (pc := 54) hV dX12_pairsOf_54 rfl rfl ?_
            refine zr_getR (pc := 55) hV 23 14 dX12_pairsOf_55 fX12_59 rfl rfl rfl (by decide) (zx_g23 hσ39) (by omega) ?_
            refine zr_iload (pc := 58) hV dX12_pairsOf_58 rfl ?_
            refine zr_iconst (pc := 60) hV 1 dX12_pairsOf_60 rfl ?_
            refine zr_iadd (pc := 61) hV dX12_pairsOf_61 ?_
            refine zr_iald (pc := 62) hV dX12_pairsOf_62 rfl (by decide) rfl (by omega) ?_
            have t20 := zx_ga14 hσ39 (x5_6 + 1)
            have t21 : σ39 14 (x5_6 + 1) = σ22 14 (x5_6 + 1) := hfσ39 _ _ (by omega)
            have t22 : σ22 14 (x5_6 + 1) = σ_6 14 (x5_6 + 1) := hfσ22 _ _ (by omega)
            have t23 : σ_6 14 (x5_6 + 1) = σ 14 (x5_6 + 1) := hFσ_6 _ _ (by omega)
            have w1 : σ39 14 x5_6 = σ_6 14 x5_6 := by rw [hfσ39 14 _ (by omega), hfσ22 14 _ (by omega)]
            have w2 : σ39 14 (x5_6 + 1) = σ22 14 (x5_6 + 1) := hfσ39 14 _ (by omega)
            have y1 : σ39 18 (σ39 14 x5_6) = σ22 18 (σ_6 14 x5_6) := by rw [w1]; exact pσ39.2.2.2.2.1 pσ22.2.2.2.1 _
            have y2 : σ39 18 (σ39 14 (x5_6 + 1)) = σ39 18 (σ22 14 (x5_6 + 1)) := by rw [w2]
            have y3 := pσ39.2.2.2.1
            have t24 := zx_g30 hσ39
            have t25 := zx_g3 hσ39
            have t26 : σ39 0 3 = σ22 0 3 := hfσ39 _ _ (by omega)
            have t27 : σ22 0 3 = σ_6 0 3 := hfσ22 _ _ (by omega)
            have t28 : σ_6 0 3 = σ 0 3 := hFσ_6 _ _ (by omega)
            have t29 := zx_g3 hσ39
            have t30 : σ39 0 3 = σ22 0 3 := hfσ39 _ _ (by omega)
            have t31 : σ22 0 3 = σ_6 0 3 := hfσ22 _ _ (by omega)
            have t32 : σ_6 0 3 = σ 0 3 := hFσ_6 _ _ (by omega)
            refine zr_callVi (pc := 63) hV [ZI (σ39 14 x5_6), ZI (σ39 14 (x5_6 + 1))] (st := []) (c_X12_likeFieldsW (σ := σ39) hσ39 (σ39 14 x5_6) (σ39 14 (x5_6 + 1)) (by omega) (by omega) (by omega) (by omega) (by omega) Mσ39 Oσ39 Wσ39) dX12_pairsOf_63 mX12_462 rfl (by decide) (by decide) (Nat.le_of_ble_eq_true rfl) (Nat.le_refl _) (fun r63 σ63 hr63 pσ63 => ?_)
            obtain ⟨hσ63, hfσ63, pσ63, Mσ63, Oσ63, Wσ63⟩ := pσ63
            have hFσ63 : ∀ a i : Int, (¬ (a = 0 ∧ i = 30) ∧ a ≠ 18) → σ63 a i = σ a i := fun a i h => (hfσ63 a i ⟨h.1, h.2⟩).trans (hFσ39 a i h)
            refine zr_if_eq (pc := 66) hV 73 dX12_pairsOf_66 (by decide) (by omega) (fun c33 => ?_) (fun c33 => ?_)
            · exact J73 σ63 hσ63 hFσ63 Mσ63 Oσ63 Wσ63
            · show V 69 [some (ZR 0), some (ZI a), some (ZI c), some (ZI end_), some (ZI x4_6), some (ZI x5_6), none] [] 41 σ63
              refine zr_iconst (pc := 69) hV 1 dX12_pairsOf_69 rfl ?_
              refine zr_goto (pc := 70) hV 74 dX12_pairsOf_70 (by decide) ?_
              exact J74 1 σ63 (by omega) hσ63 hFσ63 Mσ63 Oσ63 Wσ63
  exact L6 (65 - (0 : Int) + 1 : Int).toNat 0 0 σ (by omega) (by omega) hσ (fun a i _ => rfl) Mσ Oσ Wσ (by omega)
set_option maxHeartbeats 800000 in
theorem c_X12_pairsW {σ : zq_S} (hσ : zx_T σ) (a c end_ : Int) (q0 : zq_in a) (q1 : zq_in c) (q2 : zq_in end_) (Mσ : zx_M σ) (Oσ : zx_O σ) (Wσ : zx_W σ) : zq_C zx_w yX12_pairs cX12_pairs 4 (some .int) 5 121 41 41 [ZR 0, ZI a, ZI c, ZI end_] σ (zq_pi (fun r τ => zx_T τ ∧ (∀ a i : Int, (¬ (a = 0 ∧ i = 30) ∧ a ≠ 18) → τ a i = σ a i) ∧ (True) ∧ zx_M τ ∧ zx_O τ ∧ zx_W τ)) := by
  refine zq_C_of (by decide) (Nat.le_refl _) (Nat.le_of_ble_eq_true rfl) [some (ZR 0), some (ZI a), some (ZI c), some (ZI end_)] rfl (fun V hV => ?_)
  show V 0 [some (ZR 0), some (ZI a), some (ZI c), some (ZI end_)] [] 41 σ
  refine zr_aload_n (pc := 0) hV dX12_pairs_0 rfl rfl ?_
  refine zr_iload_n (pc := 1) hV dX12_pairs_1 rfl rfl ?_
  refine zr_callVp (pc := 2) hV [ZI a] (st := []) (c_X12_isOrder (σ := σ) hσ a (by omega)) dX12_pairs_2 mX12_271 rfl (by decide) (by decide) (Nat.le_of_ble_eq_true rfl) (Nat.le_refl _) (fun r2 hr2 pr2 => ?_)
  have t1 := zx_g3 hσ
  refine zr_if_eq (pc := 5) hV 38 dX12_pairs_5 (by decide) (by omega) (fun c2 => ?_) (fun c2 => ?_)
  · show V 38 [some (ZR 0), some (ZI a), some (ZI c), some (ZI end_)] [] 41 σ
    refine zr_iconst (pc := 38) hV (-1) dX12_pairs_38 rfl ?_
    show V 39 [some (ZR 0), some (ZI a), some (ZI c), some (ZI end_)] [ZI (-1)] 41 σ
    exact zr_iret (pc := 39) hV dX12_pairs_39 rfl rfl ⟨_, rfl, ⟨by decide, by decide⟩, hσ, (fun a i _ => rfl), trivial, Mσ, Oσ, Wσ⟩
  · show V 8 [some (ZR 0), some (ZI a), some (ZI c), some (ZI end_)] [] 41 σ
    refine zr_aload_n (pc := 8) hV dX12_pairs_8 rfl rfl ?_
    refine zr_iload_n (pc := 9) hV dX12_pairs_9 rfl rfl ?_
    refine zr_callVp (pc := 10) hV [ZI c] (st := []) (c_X12_isOrder (σ := σ) hσ c (by omega)) dX12_pairs_10 mX12_271 rfl (by decide) (by decide) (Nat.le_of_ble_eq_true rfl) (Nat.le_refl _) (fun r10 hr10 pr10 => ?_)
    have t3 := zx_g3 hσ
    refine zr_if_eq (pc := 13) hV 38 dX12_pairs_13 (by decide) (by omega) (fun c4 => ?_) (fun c4 => ?_)
    · show V 38 [some (ZR 0), some (ZI a), some (ZI c), some (ZI end_)] [] 41 σ
      refine zr_iconst (pc := 38) hV (-1) dX12_pairs_38 rfl ?_
      show V 39 [some (ZR 0), some (ZI a), some (ZI c), some (ZI end_)] [ZI (-1)] 41 σ
      exact zr_iret (pc := 39) hV dX12_pairs_39 rfl rfl ⟨_, rfl, ⟨by decide, by decide⟩, hσ, (fun a i _ => rfl), trivial, Mσ, Oσ, Wσ⟩
    · show V 16 [some (ZR 0), some (ZI a), some (ZI c), some (ZI end_)] [] 41 σ
      refine zr_iload_n (pc := 16) hV dX12_pairs_16 rfl rfl ?_
      refine zr_i2l (pc := 17) hV dX12_pairs_17 (by omega) ?_
      refine zr_lconst (pc := 18) hV 0 dX12_pairs_18 (by decide) ?_
      refine zr_ldc2 (pc := 19) (v := 64) hV 64 dX12_pairs_19 kX12_465 (by decide) ?_
      refine zr_callSp (pc := 22) hV [ZL end_, ZL 0, ZL 64] (st := []) (c_X12_in (σ := σ) end_ 0 64 (by omega) (by omega) (by omega)) dX12_pairs_22 mX12_170 (by decide) (Nat.le_of_ble_eq_true rfl) (Nat.le_refl _) (fun r22 hr22 pr22 => ?_)
      refine zr_if_eq (pc := 25) hV 38 dX12_pairs_25 (by decide) (by omega) (fun c5 => ?_) (fun c5 => ?_)
      · show V 38 [some (ZR 0), some (ZI a), some (ZI c), some (ZI end_)] [] 41 σ
        refine zr_iconst (pc := 38) hV (-1) dX12_pairs_38 rfl ?_
        show V 39 [some (ZR 0), some (ZI a), some (ZI c), some (ZI end_)] [ZI (-1)] 41 σ
        exact zr_iret (pc := 39) hV dX12_pairs_39 rfl rfl ⟨_, rfl, ⟨by decide, by decide⟩, hσ, (fun a i _ => rfl), trivial, Mσ, Oσ, Wσ⟩
      · show V 28 [some (ZR 0), some (ZI a), some (ZI c), some (ZI end_)] [] 41 σ
        refine zr_aload_n (pc := 28) hV dX12_pairs_28 rfl rfl ?_
        refine zr_iload_n (pc := 29) hV dX12_pairs_29 rfl rfl ?_
        refine zr_iload_n (pc := 30) hV dX12_pairs_30 rfl rfl ?_
        refine zr_iload_n (pc := 31) hV dX12_pairs_31 rfl rfl ?_
        have t6 := zx_g3 hσ
        have t7 := zx_g3 hσ
        refine zr_callVi (pc := 32) hV [ZI a, ZI c, ZI end_] (st := []) (c_X12_pairsOfW (σ := σ) hσ a c end_ (by omega) (by omega) (by omega) Mσ Oσ Wσ) dX12_pairs_32 mX12_467 rfl (by decide) (by decide) (Nat.le_of_ble_eq_true rfl) (Nat.le_refl _) (fun r32 σ32 hr32 pσ32 => ?_)
        obtain ⟨hσ32, hfσ32, pσ32, Mσ32, Oσ32, Wσ32⟩ := pσ32
        have hFσ32 : ∀ a i : Int, (¬ (a = 0 ∧ i = 30) ∧ a ≠ 18) → σ32 a i = σ a i := fun a i h => (hfσ32 a i ⟨h.1, h.2⟩)
        refine zr_goto (pc := 35) hV 39 dX12_pairs_35 (by decide) ?_
        show V 39 [some (ZR 0), some (ZI a), some (ZI c), some (ZI end_)] [ZI r32] 41 σ32
        exact zr_iret (pc := 39) hV dX12_pairs_39 rfl rfl ⟨_, rfl, (by omega), hσ32, hFσ32, trivial, Mσ32, Oσ32, Wσ32⟩
set_option maxHeartbeats 800000 in
theorem c_X12_roomW {σ : zq_S} (hσ : zx_T σ) (a c : Int) (q0 : zq_in a) (q1 : zq_in c) (Mσ : zx_M σ) (Oσ : zx_O σ) (Wσ : zx_W σ) : zq_C zx_w yX12_room cX12_room 3 (some .int) 4 99 41 41 [ZR 0, ZI a, ZI c] σ (zq_pi (fun r τ => zx_T τ ∧ (∀ a i : Int, (¬ (a = 0 ∧ i = 30) ∧ ¬ (a = 0 ∧ i = 61) ∧ a ≠ 18) → τ a i = σ a i) ∧ (True) ∧ zx_M τ ∧ zx_O τ ∧ zx_W τ)) := by
  refine zq_C_of (by decide) (Nat.le_refl _) (Nat.le_of_ble_eq_true rfl) [some (ZR 0), some (ZI a), some (ZI c)] rfl (fun V hV => ?_)
  show V 0 [some (ZR 0), some (ZI a), some (ZI c)] [] 41 σ
  refine zr_aload_n (pc := 0) hV dX12_room_0 rfl rfl ?_
  refine zr_iload_n (pc := 1) hV dX12_room_1 rfl rfl ?_
  refine zr_callVp (pc := 2) hV [ZI a] (st := []) (c_X12_isOrder (σ := σ) hσ a (by omega)) dX12_room_2 mX12_271 rfl (by decide) (by decide) (Nat.le_of_ble_eq_true rfl) (Nat.le_refl _) (fun r2 hr2 pr2 => ?_)
  have t1 := zx_g3 hσ
  refine zr_if_eq (pc := 5) hV 25 dX12_room_5 (by decide) (by omega) (fun c2 => ?_) (fun c2 => ?_)
  · show V 25 [some (ZR 0), some (ZI a), some (ZI c)] [] 41 σ
    refine zr_iconst (pc := 25) hV (-1) dX12_room_25 rfl ?_
    show V 26 [some (ZR 0), some (ZI a), some (ZI c)] [ZI (-1)] 41 σ
    exact zr_iret (pc := 26) hV dX12_room_26 rfl rfl ⟨_, rfl, ⟨by decide, by decide⟩, hσ, (fun a i _ => rfl), trivial, Mσ, Oσ, Wσ⟩
  · show V 8 [some (ZR 0), some (ZI a), some (ZI c)] [] 41 σ
    refine zr_aload_n (pc := 8) hV dX12_room_8 rfl rfl ?_
    refine zr_iload_n (pc := 9) hV dX12_room_9 rfl rfl ?_
    refine zr_callVp (pc := 10) hV [ZI c] (st := []) (c_X12_isOrder (σ := σ) hσ c (by omega)) dX12_room_10 mX12_271 rfl (by decide) (by decide) (Nat.le_of_ble_eq_true rfl) (Nat.le_refl _) (fun r10 hr10 pr10 => ?_)
    have t3 := zx_g3 hσ
    refine zr_if_eq (pc := 13) hV 25 dX12_room_13 (by decide) (by omega) (fun c4 => ?_) (fun c4 => ?_)
    · show V 25 [some (ZR 0), some (ZI a), some (ZI c)] [] 41 σ
      refine zr_iconst (pc := 25) hV (-1) dX12_room_25 rfl ?_
      show V 26 [some (ZR 0), some (ZI a), some (ZI c)] [ZI (-1)] 41 σ
      exact zr_iret (pc := 26) hV dX12_room_26 rfl rfl ⟨_, rfl, ⟨by decide, by decide⟩, hσ, (fun a i _ => rfl), trivial, Mσ, Oσ, Wσ⟩
    · show V 16 [some (ZR 0), some (ZI a), some (ZI c)] [] 41 σ
      refine zr_aload_n (pc := 16) hV dX12_room_16 rfl rfl ?_
      refine zr_iload_n (pc := 17) hV dX12_room_17 rfl rfl ?_
      refine zr_iload_n (pc := 18) hV dX12_room_18 rfl rfl ?_
      have t5 := zx_g3 hσ
      have t6 := zx_g3 hσ
      refine zr_callVi (pc := 19) hV [ZI a, ZI c] (st := []) (c_X12_roomFor3 (σ := σ) hσ a c (by omega) (by omega) Mσ Oσ Wσ) dX12_room_19 mX12_473 rfl (by decide) (by decide) (Nat.le_of_ble_eq_true rfl) (Nat.le_refl _) (fun r19 σ19 hr19 pσ19 => ?_)
      obtain ⟨hσ19, hfσ19, pσ19, wσ19, Mσ19, Oσ19, Wσ19⟩ := pσ19
      have hFσ19 : ∀ a i : Int, (¬ (a = 0 ∧ i = 30) ∧ ¬ (a = 0 ∧ i = 61) ∧ a ≠ 18) → σ19 a i = σ a i := fun a i h => (hfσ19 a i ⟨h.1, h.2.1, h.2.2⟩)
      have t7 := zx_g1 hσ
      have t8 := zx_g2 hσ
      refine zr_goto (pc := 22) hV 26 dX12_room_22 (by decide) ?_
      show V 26 [some (ZR 0), some (ZI a), some (ZI c)] [ZI r19] 41 σ19
      exact zr_iret (pc := 26) hV dX12_room_26 rfl rfl ⟨_, rfl, (by omega), hσ19, hFσ19, trivial, Mσ19, Oσ19, Wσ19⟩
set_option maxHeartbeats 800000 in
theorem c_X12_bestW {σ : zq_S} (hσ : zx_T σ) (end_ : Int) (q0 : zq_in end_) (Mσ : zx_M σ) (Oσ : zx_O σ) (Wσ : zx_W σ) : zq_C zx_w yX12_best cX12_best 7 (some .int) 5 121 41 41 [ZR 0, ZI end_] σ (zq_pi (fun r τ => zx_T τ ∧ (∀ a i : Int, (¬ (a = 0 ∧ i = 30) ∧ ¬ (a = 0 ∧ i = 61) ∧ a ≠ 18) → τ a i = σ a i) ∧ (True) ∧ zx_M τ ∧ zx_O τ ∧ zx_W τ)) := by
  refine zq_C_of (by decide) (Nat.le_refl _) (Nat.le_of_ble_eq_true rfl) [some (ZR 0), some (ZI end_), none, none, none, none, none] rfl (fun V hV => ?_)
  show V 0 [some (ZR 0), some (ZI end_), none, none, none, none, none] [] 41 σ
  refine zr_iload_n (pc := 0) hV dX12_best_0 rfl rfl ?_
  refine zr_i2l (pc := 1) hV dX12_best_1 (by omega) ?_
  refine zr_lconst (pc := 2) hV 0 dX12_best_2 (by decide) ?_
  refine zr_ldc2 (pc := 3) (v := 64) hV 64 dX12_best_3 kX12_465 (by decide) ?_
  refine zr_callSp (pc := 6) hV [ZL end_, ZL 0, ZL 64] (st := []) (c_X12_in (σ := σ) end_ 0 64 (by omega) (by omega) (by omega)) dX12_best_6 mX12_170 (by decide) (Nat.le_of_ble_eq_true rfl) (Nat.le_refl _) (fun r6 hr6 pr6 => ?_)
  refine zr_if_ne (pc := 9) hV 14 dX12_best_9 (by decide) (by omega) (fun c1 => ?_) (fun c1 => ?_)
  · show V 14 [some (ZR 0), some (ZI end_), none, none, none, none, none] [] 41 σ
    refine zr_bipush (pc := 14) hV (-4) dX12_best_14 (by decide) ?_
    refine zr_istore_n (pc := 16) hV [some (ZR 0), some (ZI end_), some (ZI (-4)), none, none, none, none] dX12_best_16 rfl (by decide) rfl rfl ?_
    refine zr_iconst (pc := 17) hV 0 dX12_best_17 rfl ?_
    refine zr_istore_n (pc := 18) hV [some (ZR 0), some (ZI end_), some (ZI (-4)), some (ZI 0), none, none, none] dX12_best_18 rfl (by decide) rfl rfl ?_
    refine zr_iconst (pc := 19) hV 0 dX12_best_19 rfl ?_
    refine zr_istore (pc := 20) hV [some (ZR 0), some (ZI end_), some (ZI (-4)), some (ZI 0), some (ZI 0), none, none] dX12_best_20 (by decide) rfl rfl ?_
    have L22 : ∀ (fuel : Nat) (x2_22 : Int) (x3_22 : Int) (x4_22 : Int) (σ_22 : zq_S), ((-4) ≤ x2_22 ∧ x2_22 ≤ 2147483647) → (0 ≤ x3_22 ∧ x3_22 ≤ 2147483647) → (0 ≤ x4_22 ∧ x4_22 ≤ 20) → (zx_T σ_22) → (∀ a i : Int, (¬ (a = 0 ∧ i = 30) ∧ ¬ (a = 0 ∧ i = 61) ∧ a ≠ 18) → σ_22 a i = σ a i) → (zx_M σ_22) → (zx_O σ_22) → (zx_W σ_22) → 20 - x4_22 < (fuel : Int) → V 22 [some (ZR 0), some (ZI end_), some (ZI x2_22), some (ZI x3_22), some (ZI x4_22), none, none] [] 41 σ_22 := by
      intro fuel
      induction fuel with
      | zero =>
        intro x2_22 x3_22 x4_22 σ_22 hx2_22 hx3_22 hx4_22 hσ_22 hFσ_22 Mσ_22 Oσ_22 Wσ_22 hm22
        exfalso; omega
      | succ fuel ih =>
        intro x2_22 x3_22 x4_22 σ_22 hx2_22 hx3_22 hx4_22 hσ_22 hFσ_22 Mσ_22 Oσ_22 Wσ_22 hm22
        have ih22 := ih
        show V 22 [some (ZR 0), some (ZI end_), some (ZI x2_22), some (ZI x3_22), some (ZI x4_22), none, none] [] 41 σ_22
        refine zr_iload (pc := 22) hV dX12_best_22 rfl ?_
        refine zr_aload_n (pc := 24) hV dX12_best_24 rfl rfl ?_
        refine zr_getI (pc := 25) hV 3 dX12_best_25 fX12_150 rfl rfl rfl (by decide) ?_
        have t2 := zx_g3 hσ_22
        have t3 : σ_22 0 3 = σ 0 3 := hFσ_22 _ _ (by omega)
        refine zr_icmp_ge (pc := 28) hV 95 dX12_best_28 (by decide) (by omega) (by omega) (fun c4 => ?_) (fun c4 => ?_)
        · show V 95 [some (ZR 0), some (ZI end_), some (ZI x2_22), some (ZI x3_22), some (ZI x4_22), none, none] [] 41 σ_22
          refine zr_iload_n (pc := 95) hV dX12_best_95 rfl rfl ?_
          exact zr_iret (pc := 96) hV dX12_best_96 rfl rfl ⟨_, rfl, (by omega), hσ_22, hFσ_22, trivial, Mσ_22, Oσ_22, Wσ_22⟩
        · show V 31 [some (ZR 0), some (ZI end_), some (ZI x2_22), some (ZI x3_22), some (ZI x4_22), none, none] [] 41 σ_22
          refine zr_iconst (pc := 31) hV 0 dX12_best_31 rfl ?_
          refine zr_istore (pc := 32) hV [some (ZR 0), some (ZI end_), some (ZI x2_22), some (ZI x3_22), some (ZI x4_22), some (ZI 0), none] dX12_best_32 (by decide) rfl rfl ?_
          have L34 : ∀ (fuel : Nat) (x2_34 : Int) (x3_34 : Int) (x5_34 : Int) (σ_34 : zq_S), ((-4) ≤ x2_34 ∧ x2_34 ≤ 2147483647) → (0 ≤ x3_34 ∧ x3_34 ≤ 2147483647) → (0 ≤ x5_34 ∧ x5_34 ≤ 20) → (zx_T σ_34) → (∀ a i : Int, (¬ (a = 0 ∧ i = 30) ∧ ¬ (a = 0 ∧ i = 61) ∧ a ≠ 18) → σ_34 a i = σ a i) → (zx_M σ_34) → (zx_O σ_34) → (zx_W σ_34) → 20 - x5_34 < (fuel : Int) → V 34 [some (ZR 0), some (ZI end_), some (ZI x2_34), some (ZI x3_34), some (ZI x4_22), some (ZI x5_34), none] [] 41 σ_34 := by
            intro fuel
            induction fuel with
            | zero =>
              intro x2_34 x3_34 x5_34 σ_34 hx2_34 hx3_34 hx5_34 hσ_34 hFσ_34 Mσ_34 Oσ_34 Wσ_34 hm34
              exfalso; omega
            | succ fuel ih =>
              intro x2_34 x3_34 x5_34 σ_34 hx2_34 hx3_34 hx5_34 hσ_34 hFσ_34 Mσ_34 Oσ_34 Wσ_34 hm34
              have ih34 := ih
              show V 34 [some (ZR 0), some (ZI end_), some (ZI x2_34), some (ZI x3_34), some (ZI x4_22), some (ZI x5_34), none] [] 41 σ_34
              refine zr_iload (pc := 34) hV dX12_best_34 rfl ?_
              refine zr_aload_n (pc := 36) hV dX12_best_36 rfl rfl ?_
              refine zr_getI (pc := 37) hV 3 dX12_best_37 fX12_150 rfl rfl rfl (by decide) ?_
              have t5 := zx_g3 hσ_34
              have t6 : σ_34 0 3 = σ 0 3 := hFσ_34 _ _ (by omega)
              refine zr_icmp_ge (pc := 40) hV 89 dX12_best_40 (by decide) (by omega) (by omega) (fun c7 => ?_) (fun c7 => ?_)
              · show V 89 [some (ZR 0), some (ZI end_), some (ZI x2_34), some (ZI x3_34), some (ZI x4_22), some (ZI x5_34), none] [] 41 σ_34
                refine zr_iinc (pc := 89) hV [some (ZR 0), some (ZI end_), some (ZI x2_34), some (ZI x3_34), some (ZI (x4_22 + 1)), some (ZI x5_34), none] (x4_22 + 1) dX12_best_89 rfl rfl (by decide) rfl rfl ?_
                refine zr_goto (pc := 92) hV 22 dX12_best_92 (by decide) ?_
                refine zr_sub (pc := 22) hV [some (ZR 0), some (ZI end_), some (ZI x2_34), some (ZI x3_34), some (ZI (x4_22 + 1)), none, none] (⟨rfl, rfl, rfl, rfl, rfl, trivial⟩) ?_
                exact ih22 x2_34 x3_34 (x4_22 + 1) σ_34 (by omega) (by omega) (by omega) hσ_34 hFσ_34 Mσ_34 Oσ_34 Wσ_34 (by omega)
              · show V 43 [some (ZR 0), some (ZI end_), some (ZI x2_34), some (ZI x3_34), some (ZI x4_22), some (ZI x5_34), none] [] 41 σ_34
                refine zr_aload_n (pc := 43) hV dX12_best_43 rfl rfl ?_
                refine zr_iload (pc := 44) hV dX12_best_44 rfl ?_
                refine zr_iload (pc := 46) hV dX12_best_46 rfl ?_
                refine zr_iload_n (pc := 48) hV dX12_best_48 rfl rfl ?_
                have t8 := zx_g3 hσ_34
                have t9 : σ_34 0 3 = σ 0 3 := hFσ_34 _ _ (by omega)
                have t10 := zx_g3 hσ_34
                have t11 : σ_34 0 3 = σ 0 3 := hFσ_34 _ _ (by omega)
                refine zr_callVi (pc := 49) hV [ZI x4_22, ZI x5_34, ZI end_] (st := []) (c_X12_pairsOfW (σ := σ_34) hσ_34 x4_22 x5_34 end_ (by omega) (by omega) (by omega) Mσ_34 Oσ_34 Wσ_34) dX12_best_49 mX12_467 rfl (by decide) (by decide) (Nat.le_of_ble_eq_true rfl) (Nat.le_refl _) (fun r49 σ49 hr49 pσ49 => ?_)
                obtain ⟨hσ49, hfσ49, pσ49, Mσ49, Oσ49, Wσ49⟩ := pσ49
                have hFσ49 : ∀ a i : Int, (¬ (a = 0 ∧ i = 30) ∧ ¬ (a = 0 ∧ i = 61) ∧ a ≠ 18) → σ49 a i = σ a i := fun a i h => (hfσ49 a i ⟨h.1, h.2.2⟩).trans (hFσ_34 a i h)
                refine zr_istore (pc := 52) hV [some (ZR 0), some (ZI end_), some (ZI x2_34), some (ZI x3_34), some (ZI x4_22), some (ZI x5_34), some (ZI r49)] dX12_best_52 (by decide) rfl rfl ?_
                refine zr_iload (pc := 54) hV dX12_best_54 rfl ?_
                refine zr_iload_n (pc := 56) hV dX12_best_56 rfl rfl ?_
                refine zr_icmp_le (pc := 57) hV 83 dX12_best_57 (by decide) (by omega) (by omega) (fun c12 => ?_) (fun c12 => ?_)
                · show V 83 [some (ZR 0), some (ZI end_), some (ZI x2_34), some (ZI x3_34), some (ZI x4_22), some (ZI x5_34), some (ZI r49)] [] 41 σ49
                  refine zr_iinc (pc := 83) hV [some (ZR 0), some (ZI end_), some (ZI x2_34), some (ZI x3_34), some (ZI x4_22), some (ZI (x5_34 + 1)), some (ZI r49)] (x5_34 + 1) dX12_best_83 rfl rfl (by decide) rfl rfl ?_
                  refine zr_goto (pc := 86) hV 34 dX12_best_86 (by decide) ?_
                  refine zr_sub (pc := 34) hV [some (ZR 0), some (ZI end_), some (ZI x2_34), some (ZI x3_34), some (ZI x4_22), some (ZI (x5_34 + 1)), none] (⟨rfl, rfl, rfl, rfl, rfl, rfl, trivial⟩) ?_
                  exact ih34 x2_34 x3_34 (x5_34 + 1) σ49 (by omega) (by omega) (by omega) hσ49 hFσ49 Mσ49 Oσ49 Wσ49 (by omega)
                · show V 60 [some (ZR 0), some (ZI end_), some (ZI x2_34), some (ZI x3_34), some (ZI x4_22), some (ZI x5_34), some (ZI r49)] [] 41 σ49
                  refine zr_aload_n (pc := 60) hV dX12_best_60 rfl rfl ?_
                  refine zr_iload (pc := 61) hV dX12_best_61 rfl ?_
                  refine zr_iload (pc := 63) hV dX12_best_63 rfl ?_
                  have t13 := zx_g3 hσ49
                  have t14 : σ49 0 3 = σ_34 0 3 := hfσ49 _ _ (by omega)
                  have t15 : σ_34 0 3 = σ 0 3 := hFσ_34 _ _ (by omega)
                  have t16 := zx_g3 hσ49
                  have t17 : σ49 0 3 = σ_34 0 3 := hfσ49 _ _ (by omega)
                  have t18 : σ_34 0 3 = σ 0 3 := hFσ_34 _ _ (by omega)
                  refine zr_callVi (pc := 65) hV [ZI x4_22, ZI x5_34] (st := []) (c_X12_roomFor3 (σ := σ49) hσ49 x4_22 x5_34 (by omega) (by omega) Mσ49 Oσ49 Wσ49) dX12_best_65 mX12_473 rfl (by decide) (by decide) (Nat.le_of_ble_eq_true rfl) (Nat.le_refl _) (fun r65 σ65 hr65 pσ65 => ?_)
                  obtain ⟨hσ65, hfσ65, pσ65, wσ65, Mσ65, Oσ65, Wσ65⟩ := pσ65
                  have hFσ65 : ∀ a i : Int, (¬ (a = 0 ∧ i = 30) ∧ ¬ (a = 0 ∧ i = 61) ∧ a ≠ 18) → σ65 a i = σ a i := fun a i h => (hfσ65 a i ⟨h.1, h.2.1, h.2.2⟩).trans (hFσ49 a i h)
                  have t19 := zx_g1 hσ49
                  have t20 : σ49 0 1 = σ_34 0 1 := hfσ49 _ _ (by omega)
                  have t21 : σ_34 0 1 = σ 0 1 := hFσ_34 _ _ (by omega)
                  have t22 := zx_g2 hσ49
                  have t23 : σ49 0 2 = σ_34 0 2 := hfσ49 _ _ (by omega)
                  have t24 : σ_34 0 2 = σ 0 2 := hFσ_34 _ _ (by omega)
                  refine zr_if_lt (pc := 68) hV 83 dX12_best_68 (by decide) (by omega) (fun c25 => ?_) (fun c25 => ?_)
                  · show V 83 [some (ZR 0), some (ZI end_), some (ZI x2_34), some (ZI x3_34), some (ZI x4_22), some (ZI x5_34), some (ZI r49)] [] 41 σ65
                    refine zr_iinc (pc := 83) hV [some (ZR 0), some (ZI end_), some (ZI x2_34), some (ZI x3_34), some (ZI x4_22), some (ZI (x5_34 + 1)), some (ZI r49)] (x5_34 + 1) dX12_best_83 rfl rfl (by decide) rfl rfl ?_
                    refine zr_goto (pc := 86) hV 34 dX12_best_86 (by decide) ?_
                    refine zr_sub (pc := 34) hV [some (ZR 0), some (ZI end_), some (ZI x2_34), some (ZI x3_34), some (ZI x4_22), some (ZI (x5_34 + 1)), none] (⟨rfl, rfl, rfl, rfl, rfl, rfl, trivial⟩) ?_
                    exact ih34 x2_34 x3_34 (x5_34 + 1) σ65 (by omega) (by omega) (by omega) hσ65 hFσ65 Mσ65 Oσ65 Wσ65 (by omega)
                  · show V 71 [some (ZR 0), some (ZI end_), some (ZI x2_34), some (ZI x3_34), some (ZI x4_22), some (ZI x5_34), some (ZI r49)] [] 41 σ65
                    refine zr_iload (pc := 71) hV dX12_best_71 rfl ?_
                    refine zr_istore_n (pc := 73) hV [some (ZR 0), some (ZI end_), some (ZI x2_34), some (ZI r49), some (ZI x4_22), some (ZI x5_34), some (ZI r49)] dX12_best_73 rfl (by decide) rfl rfl ?_
                    refine zr_bipush (pc := 74) hV 20 dX12_best_74 (by decide) ?_
                    refine zr_iload (pc := 76) hV dX12_best_76 rfl ?_
                    refine zr_imul (pc := 78) hV dX12_best_78 ?_
                    refine zr_iload (pc := 79) hV dX12_best_79 rfl ?_
                    refine zr_iadd (pc := 81) hV dX12_best_81 ?_
                    refine zr_istore_n (pc := 82) hV [some (ZR 0), some (ZI end_), some (ZI ((20 * x4_22) + x5_34)), some (ZI r49), some (ZI x4_22), some (ZI x5_34), some (ZI r49)] dX12_best_82 rfl (by decide) rfl rfl ?_
                    show V 83 [some (ZR 0), some (ZI end_), some (ZI ((20 * x4_22) + x5_34)), some (ZI r49), some (ZI x4_22), some (ZI x5_34), some (ZI r49)] [] 41 σ65
                    refine zr_iinc (pc := 83) hV [some (ZR 0), some (ZI end_), some (ZI ((20 * x4_22) + x5_34)), some (ZI r49), some (ZI x4_22), some (ZI (x5_34 + 1)), some (ZI r49)] (x5_34 + 1) dX12_best_83 rfl rfl (by decide) rfl rfl ?_
                    refine zr_goto (pc := 86) hV 34 dX12_best_86 (by decide) ?_
                    refine zr_sub (pc := 34) hV [some (ZR 0), some (ZI end_), some (ZI ((20 * x4_22) + x5_34)), some (ZI r49), some (ZI x4_22), some (ZI (x5_34 + 1)), none] (⟨rfl, rfl, rfl, rfl, rfl, rfl, trivial⟩) ?_
                    exact ih34 ((20 * x4_22) + x5_34) r49 (x5_34 + 1) σ65 (by omega) (by omega) (by omega) hσ65 hFσ65 Mσ65 Oσ65 Wσ65 (by omega)
          exact L34 (20 - (0 : Int) + 1 : Int).toNat x2_22 x3_22 0 σ_22 (by omega) (by omega) (by omega) hσ_22 hFσ_22 Mσ_22 Oσ_22 Wσ_22 (by omega)
    exact L22 (20 - (0 : Int) + 1 : Int).toNat (-4) 0 0 σ (by omega) (by omega) (by omega) hσ (fun a i _ => rfl) Mσ Oσ Wσ (by omega)
  · show V 12 [some (ZR 0), some (ZI end_), none, none, none, none, none] [] 41 σ
    refine zr_iconst (pc := 12) hV (-1) dX12_best_12 rfl ?_
    exact zr_iret (pc := 13) hV dX12_best_13 rfl rfl ⟨_, rfl, ⟨by decide, by decide⟩, hσ, (fun a i _ => rfl), trivial, Mσ, Oσ, Wσ⟩
