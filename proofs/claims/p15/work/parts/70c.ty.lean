set_option maxHeartbeats 800000 in
theorem c_X12_line2 {σ : zq_S} (hσ : zx_T σ)  : zq_C zx_w yX12_line cX12_line 2 (some .int) 3 73 41 41 [ZR 0] σ (zq_pi (fun r τ => zx_T τ ∧ (∀ a i : Int, (¬ (a = 0 ∧ i = 14) ∧ ¬ (a = 0 ∧ i = 15) ∧ ¬ (a = 0 ∧ i = 16) ∧ a ≠ 19) → τ a i = σ a i) ∧ (τ 0 14 = 0))) := by
  refine zq_C_of (by decide) (Nat.le_refl _) (Nat.le_of_ble_eq_true rfl) [some (ZR 0), none] rfl (fun V hV => ?_)
  show V 0 [some (ZR 0), none] [] 41 σ
  refine zr_aload_n (pc := 0) hV dX12_line_0 rfl rfl ?_
  refine zr_callVi (pc := 1) hV [] (st := []) (c_X12_readLine (σ := σ) hσ ) dX12_line_1 mX12_390 rfl (by decide) (by decide) (Nat.le_of_ble_eq_true rfl) (Nat.le_refl _) (fun r1 σ1 hr1 pσ1 => ?_)
  obtain ⟨hσ1, hfσ1, pσ1⟩ := pσ1
  have hFσ1 : ∀ a i : Int, (¬ (a = 0 ∧ i = 14) ∧ ¬ (a = 0 ∧ i = 15) ∧ ¬ (a = 0 ∧ i = 16) ∧ a ≠ 19) → σ1 a i = σ a i := fun a i h => (hfσ1 a i ⟨h.2.1, h.2.2.1, h.2.2.2⟩)
  refine zr_istore_n (pc := 4) hV [some (ZR 0), some (ZI r1)] dX12_line_4 rfl (by decide) rfl rfl ?_
  refine zr_aload_n (pc := 5) hV dX12_line_5 rfl rfl ?_
  refine zr_iconst (pc := 6) hV 0 dX12_line_6 rfl ?_
  refine zr_putI (pc := 7) hV 14 dX12_line_7 fX12_197 rfl rfl rfl rfl (by decide) (fun σ7 eσ7 => ?_)
  have hσ7 : zx_T σ7 := zx_u14 eσ7 hσ1 (by omega)
  have hFσ7 : ∀ a i : Int, (¬ (a = 0 ∧ i = 14) ∧ ¬ (a = 0 ∧ i = 15) ∧ ¬ (a = 0 ∧ i = 16) ∧ a ≠ 19) → σ7 a i = σ a i := fun a i h => by rw [eσ7, zq_up_ne h.1]; exact hFσ1 a i h
  refine zr_iload_n (pc := 10) hV dX12_line_10 rfl rfl ?_
  refine zr_if_ge (pc := 11) hV 24 dX12_line_11 (by decide) (by omega) (fun c1 => ?_) (fun c1 => ?_)
  · show V 24 [some (ZR 0), some (ZI r1)] [] 41 σ7
    refine zr_aload_n (pc := 24) hV dX12_line_24 rfl rfl ?_
    refine zr_iload_n (pc := 25) hV dX12_line_25 rfl rfl ?_
    refine zr_callVp (pc := 26) hV [ZI r1] (st := []) (c_X12_bitsOf (σ := σ7) hσ7 r1 (by omega)) dX12_line_26 mX12_393 rfl (by decide) (by decide) (Nat.le_of_ble_eq_true rfl) (Nat.le_refl _) (fun r26 hr26 pr26 => ?_)
    have t2 := zx_g2 hσ7
    have t3 : σ7 0 2 = σ1 0 2 := by rw [eσ7]; exact zq_up_ne (by omega)
    have t4 : σ1 0 2 = σ 0 2 := hfσ1 _ _ (by omega)
    show V 29 [some (ZR 0), some (ZI r1)] [ZI r26] 41 σ7
    have t5 := zx_g14 hσ7
    have t6 : σ7 0 14 = 0 := by rw [eσ7]; exact zq_up_same _ _ _ _
    exact zr_iret (pc := 29) hV dX12_line_29 rfl rfl ⟨_, rfl, (by omega), hσ7, hFσ7, (by omega)⟩
  · show V 14 [some (ZR 0), some (ZI r1)] [] 41 σ7
    refine zr_bipush (pc := 14) hV (-20) dX12_line_14 (by decide) ?_
    refine zr_aload_n (pc := 16) hV dX12_line_16 rfl rfl ?_
    refine zr_getI (pc := 17) hV 15 dX12_line_17 fX12_200 rfl rfl rfl (by decide) ?_
    have t7 := zx_g15 hσ7
    have t8 : σ7 0 15 = σ1 0 15 := by rw [eσ7]; exact zq_up_ne (by omega)
    refine zr_isub (pc := 20) hV dX12_line_20 ?_
    refine zr_goto (pc := 21) hV 29 dX12_line_21 (by decide) ?_
    show V 29 [some (ZR 0), some (ZI r1)] [ZI ((-20) - (σ7 0 15))] 41 σ7
    have t9 := zx_g14 hσ7
    have t10 : σ7 0 14 = 0 := by rw [eσ7]; exact zq_up_same _ _ _ _
    exact zr_iret (pc := 29) hV dX12_line_29 rfl rfl ⟨_, rfl, (by omega), hσ7, hFσ7, (by omega)⟩
set_option maxHeartbeats 800000 in
theorem c_X12_sum2 {σ : zq_S} (hσ : zx_T σ)  (Uσ : zx_U σ) : zq_C zx_w yX12_sum cX12_sum 3 (some .int) 4 95 41 41 [ZR 0] σ (zq_pi (fun r τ => zx_T τ ∧ (∀ a i : Int, (¬ (a = 0 ∧ i = 14) ∧ ¬ (a = 0 ∧ i = 15) ∧ ¬ (a = 0 ∧ i = 36) ∧ ¬ (a = 0 ∧ i = 37) ∧ ¬ (a = 0 ∧ i = 42) ∧ ¬ (a = 0 ∧ i = 43) ∧ ¬ (a = 0 ∧ i = 44) ∧ a ≠ 21 ∧ a ≠ 22 ∧ a ≠ 23 ∧ a ≠ 24 ∧ a ≠ 25 ∧ a ≠ 26 ∧ a ≠ 27 ∧ a ≠ 28 ∧ a ≠ 29 ∧ a ≠ 30) → τ a i = σ a i) ∧ (τ 0 14 = 0) ∧ zx_U τ)) := by
  refine zq_C_of (by decide) (Nat.le_refl _) (Nat.le_of_ble_eq_true rfl) [some (ZR 0), none, none] rfl (fun V hV => ?_)
  show V 0 [some (ZR 0), none, none] [] 41 σ
  refine zr_aload_n (pc := 0) hV dX12_sum_0 rfl rfl ?_
  refine zr_callVi (pc := 1) hV [] (st := []) (c_X12_readSum (σ := σ) hσ ) dX12_sum_1 mX12_418 rfl (by decide) (by decide) (Nat.le_of_ble_eq_true rfl) (Nat.le_refl _) (fun r1 σ1 hr1 pσ1 => ?_)
  obtain ⟨hσ1, hfσ1, pσ1, wσ1⟩ := pσ1
  have Uσ1 : zx_U σ1 := zx_U_fr (hfσ1 0 36 (by omega)) (hfσ1 0 37 (by omega)) (fun i => hfσ1 21 i (by omega)) (fun i => hfσ1 23 i (by omega)) (fun i => hfσ1 24 i (by omega)) Uσ
  have hFσ1 : ∀ a i : Int, (¬ (a = 0 ∧ i = 14) ∧ ¬ (a = 0 ∧ i = 15) ∧ ¬ (a = 0 ∧ i = 36) ∧ ¬ (a = 0 ∧ i = 37) ∧ ¬ (a = 0 ∧ i = 42) ∧ ¬ (a = 0 ∧ i = 43) ∧ ¬ (a = 0 ∧ i = 44) ∧ a ≠ 21 ∧ a ≠ 22 ∧ a ≠ 23 ∧ a ≠ 24 ∧ a ≠ 25 ∧ a ≠ 26 ∧ a ≠ 27 ∧ a ≠ 28 ∧ a ≠ 29 ∧ a ≠ 30) → σ1 a i = σ a i := fun a i h => (hfσ1 a i ⟨h.2.1, h.2.2.2.2.2.1, h.2.2.2.2.2.2.1, h.2.2.2.2.2.2.2.2.2.2.2.1, h.2.2.2.2.2.2.2.2.2.2.2.2.1, h.2.2.2.2.2.2.2.2.2.2.2.2.2.1, h.2.2.2.2.2.2.2.2.2.2.2.2.2.2.1, h.2.2.2.2.2.2.2.2.2.2.2.2.2.2.2.1, h.2.2.2.2.2.2.2.2.2.2.2.2.2.2.2.2⟩)
  refine zr_istore_n (pc := 4) hV [some (ZR 0), some (ZI r1), none] dX12_sum_4 rfl (by decide) rfl rfl ?_
  refine zr_aload_n (pc := 5) hV dX12_sum_5 rfl rfl ?_
  refine zr_iconst (pc := 6) hV 0 dX12_sum_6 rfl ?_
  refine zr_putI (pc := 7) hV 14 dX12_sum_7 fX12_197 rfl rfl rfl rfl (by decide) (fun σ7 eσ7 => ?_)
  have hσ7 : zx_T σ7 := zx_u14 eσ7 hσ1 (by omega)
  have hFσ7 : ∀ a i : Int, (¬ (a = 0 ∧ i = 14) ∧ ¬ (a = 0 ∧ i = 15) ∧ ¬ (a = 0 ∧ i = 36) ∧ ¬ (a = 0 ∧ i = 37) ∧ ¬ (a = 0 ∧ i = 42) ∧ ¬ (a = 0 ∧ i = 43) ∧ ¬ (a = 0 ∧ i = 44) ∧ a ≠ 21 ∧ a ≠ 22 ∧ a ≠ 23 ∧ a ≠ 24 ∧ a ≠ 25 ∧ a ≠ 26 ∧ a ≠ 27 ∧ a ≠ 28 ∧ a ≠ 29 ∧ a ≠ 30) → σ7 a i = σ a i := fun a i h => by rw [eσ7, zq_up_ne h.1]; exact hFσ1 a i h
  have Uσ7 : zx_U σ7 := zx_U_fr (by rw [eσ7]; exact zq_up_ne (by omega)) (by rw [eσ7]; exact zq_up_ne (by omega)) (fun i => by rw [eσ7]; exact zq_up_ne (by omega)) (fun i => by rw [eσ7]; exact zq_up_ne (by omega)) (fun i => by rw [eσ7]; exact zq_up_ne (by omega)) Uσ1
  refine zr_iload_n (pc := 10) hV dX12_sum_10 rfl rfl ?_
  refine zr_if_ne (pc := 11) hV 22 dX12_sum_11 (by decide) (by omega) (fun c1 => ?_) (fun c1 => ?_)
  · show V 22 [some (ZR 0), some (ZI r1), none] [] 41 σ7
    have u1 : 1 ≤ σ1 0 43 ∧ σ1 0 43 ≤ 39 ∧ ∃ f, zx_tree (σ1 25) (σ1 27) (σ1 28) f (σ1 0 43) := wσ1 (by omega)
    have u1a := u1.1
    have u1b := u1.2.1
    refine zr_aload_n (pc := 22) hV dX12_sum_22 rfl rfl ?_
    refine zr_aload_n (pc := 23) hV dX12_sum_23 rfl rfl ?_
    refine zr_getI (pc := 24) hV 43 dX12_sum_24 fX12_406 rfl rfl rfl (by decide) ?_
    have t2 := zx_g43 hσ7
    have t3 : σ7 0 43 = σ1 0 43 := by rw [eσ7]; exact zq_up_ne (by omega)
    refine zr_putI (pc := 27) hV 37 dX12_sum_27 fX12_422 rfl rfl rfl rfl (by decide) (fun σ27 eσ27 => ?_)
    have hσ27 : zx_T σ27 := zx_u37 eσ27 hσ7 (by omega)
    have hFσ27 : ∀ a i : Int, (¬ (a = 0 ∧ i = 14) ∧ ¬ (a = 0 ∧ i = 15) ∧ ¬ (a = 0 ∧ i = 36) ∧ ¬ (a = 0 ∧ i = 37) ∧ ¬ (a = 0 ∧ i = 42) ∧ ¬ (a = 0 ∧ i = 43) ∧ ¬ (a = 0 ∧ i = 44) ∧ a ≠ 21 ∧ a ≠ 22 ∧ a ≠ 23 ∧ a ≠ 24 ∧ a ≠ 25 ∧ a ≠ 26 ∧ a ≠ 27 ∧ a ≠ 28 ∧ a ≠ 29 ∧ a ≠ 30) → σ27 a i = σ a i := fun a i h => by rw [eσ27, zq_up_ne h.2.2.2.1]; exact hFσ7 a i h
    refine zr_aload_n (pc := 30) hV dX12_sum_30 rfl rfl ?_
    refine zr_aload_n (pc := 31) hV dX12_sum_31 rfl rfl ?_
    refine zr_getI (pc := 32) hV 44 dX12_sum_32 fX12_409 rfl rfl rfl (by decide) ?_
    have t4 := zx_g44 hσ27
    have t5 : σ27 0 44 = σ7 0 44 := by rw [eσ27]; exact zq_up_ne (by omega)
    have t6 : σ7 0 44 = σ1 0 44 := by rw [eσ7]; exact zq_up_ne (by omega)
    refine zr_putI (pc := 35) hV 42 dX12_sum_35 fX12_425 rfl rfl rfl rfl (by decide) (fun σ35 eσ35 => ?_)
    have hσ35 : zx_T σ35 := zx_u42 eσ35 hσ27 (by omega)
    have hFσ35 : ∀ a i : Int, (¬ (a = 0 ∧ i = 14) ∧ ¬ (a = 0 ∧ i = 15) ∧ ¬ (a = 0 ∧ i = 36) ∧ ¬ (a = 0 ∧ i = 37) ∧ ¬ (a = 0 ∧ i = 42) ∧ ¬ (a = 0 ∧ i = 43) ∧ ¬ (a = 0 ∧ i = 44) ∧ a ≠ 21 ∧ a ≠ 22 ∧ a ≠ 23 ∧ a ≠ 24 ∧ a ≠ 25 ∧ a ≠ 26 ∧ a ≠ 27 ∧ a ≠ 28 ∧ a ≠ 29 ∧ a ≠ 30) → σ35 a i = σ a i := fun a i h => by rw [eσ35, zq_up_ne h.2.2.2.2.1]; exact hFσ27 a i h
    refine zr_iconst (pc := 38) hV 0 dX12_sum_38 rfl ?_
    refine zr_istore_n (pc := 39) hV [some (ZR 0), some (ZI r1), some (ZI 0)] dX12_sum_39 rfl (by decide) rfl rfl ?_
    have L40 : ∀ (fuel : Nat) (x2_40 : Int) (σ_40 : zq_S), (0 ≤ x2_40 ∧ x2_40 ≤ 39) → (zx_T σ_40) → (∀ a i : Int, (¬ (a = 0 ∧ i = 14) ∧ ¬ (a = 0 ∧ i = 15) ∧ ¬ (a = 0 ∧ i = 36) ∧ ¬ (a = 0 ∧ i = 37) ∧ ¬ (a = 0 ∧ i = 42) ∧ ¬ (a = 0 ∧ i = 43) ∧ ¬ (a = 0 ∧ i = 44) ∧ a ≠ 21 ∧ a ≠ 22 ∧ a ≠ 23 ∧ a ≠ 24 ∧ a ≠ 25 ∧ a ≠ 26 ∧ a ≠ 27 ∧ a ≠ 28 ∧ a ≠ 29 ∧ a ≠ 30) → σ_40 a i = σ a i) → (zq_hid (∀ j, 0 ≤ j → j < x2_40 → σ_40 21 j = σ1 25 j ∧ σ_40 23 j = σ1 27 j ∧ σ_40 24 j = σ1 28 j)) → (zq_hid (∀ i, σ_40 25 i = σ1 25 i ∧ σ_40 27 i = σ1 27 i ∧ σ_40 28 i = σ1 28 i)) → (σ_40 0 37 = σ1 0 43) → (σ_40 0 14 = 0) → 39 - x2_40 < (fuel : Int) → V 40 [some (ZR 0), none, some (ZI x2_40)] [] 41 σ_40 := by
      intro fuel
      induction fuel with
      | zero =>
        intro x2_40 σ_40 hx2_40 hσ_40 hFσ_40 hi40_0 hi40_1 hi40_2 hi40_3 hm40
        exfalso; omega
      | succ fuel ih =>
        intro x2_40 σ_40 hx2_40 hσ_40 hFσ_40 hi40_0 hi40_1 hi40_2 hi40_3 hm40
        have ih40 := ih
        show V 40 [some (ZR 0), none, some (ZI x2_40)] [] 41 σ_40
        refine zr_iload_n (pc := 40) hV dX12_sum_40 rfl rfl ?_
        refine zr_aload_n (pc := 41) hV dX12_sum_41 rfl rfl ?_
        refine zr_getI (pc := 42) hV 37 dX12_sum_42 fX12_422 rfl rfl rfl (by decide) ?_
        have t7 := zx_g37 hσ_40
        refine zr_icmp_ge (pc := 45) hV 102 dX12_sum_45 (by decide) (by omega) (by omega) (fun c8 => ?_) (fun c8 => ?_)
        · show V 102 [some (ZR 0), none, some (ZI x2_40)] [] 41 σ_40
          refine zr_aload_n (pc := 102) hV dX12_sum_102 rfl rfl ?_
          refine zr_iconst (pc := 103) hV 1 dX12_sum_103 rfl ?_
          refine zr_putZ (pc := 104) hV 36 dX12_sum_104 fX12_160 rfl rfl rfl (by omega) rfl (by decide) (fun σ104 eσ104 => ?_)
          have hσ104 : zx_T σ104 := zx_u36 eσ104 hσ_40 (by omega)
          have hFσ104 : ∀ a i : Int, (¬ (a = 0 ∧ i = 14) ∧ ¬ (a = 0 ∧ i = 15) ∧ ¬ (a = 0 ∧ i = 36) ∧ ¬ (a = 0 ∧ i = 37) ∧ ¬ (a = 0 ∧ i = 42) ∧ ¬ (a = 0 ∧ i = 43) ∧ ¬ (a = 0 ∧ i = 44) ∧ a ≠ 21 ∧ a ≠ 22 ∧ a ≠ 23 ∧ a ≠ 24 ∧ a ≠ 25 ∧ a ≠ 26 ∧ a ≠ 27 ∧ a ≠ 28 ∧ a ≠ 29 ∧ a ≠ 30) → σ104 a i = σ a i := fun a i h => by rw [eσ104, zq_up_ne h.2.2.1]; exact hFσ_40 a i h
          have z37 : σ104 0 37 = σ1 0 43 := by rw [eσ104, zq_up_ne (by omega)]; exact hi40_2
          have z21 : ∀ j, σ104 21 j = σ_40 21 j := fun j => by rw [eσ104, zq_up_ne (by omega)]
          have z23 : ∀ j, σ104 23 j = σ_40 23 j := fun j => by rw [eσ104, zq_up_ne (by omega)]
          have z24 : ∀ j, σ104 24 j = σ_40 24 j := fun j => by rw [eσ104, zq_up_ne (by omega)]
          have Uσ104 : zx_U σ104 := fun _ => ⟨by omega, by obtain ⟨f, hf⟩ := u1.2.2; exact ⟨f, by rw [z37]; exact zx_tree_fr (fun j h1 h2 => by rw [z21]; exact (hi40_0 j h1 (by omega)).1) (fun j h1 h2 => by rw [z23]; exact (hi40_0 j h1 (by omega)).2.1) (fun j h1 h2 => by rw [z24]; exact (hi40_0 j h1 (by omega)).2.2) hf⟩⟩
          refine zr_aload_n (pc := 107) hV dX12_sum_107 rfl rfl ?_
          refine zr_getI (pc := 108) hV 42 dX12_sum_108 fX12_425 rfl rfl rfl (by decide) ?_
          have t9 := zx_g42 hσ104
          have t10 : σ104 0 42 = σ_40 0 42 := by rw [eσ104]; exact zq_up_ne (by omega)
          have t11 := zx_g14 hσ104
          have t12 : σ104 0 14 = σ_40 0 14 := by rw [eσ104]; exact zq_up_ne (by omega)
          exact zr_iret (pc := 111) hV dX12_sum_111 rfl rfl ⟨_, rfl, (by omega), hσ104, hFσ104, (by omega), Uσ104⟩
        · show V 48 [some (ZR 0), none, some (ZI x2_40)] [] 41 σ_40
          refine zr_aload_n (pc := 48) hV dX12_sum_48 rfl rfl ?_
          refine zr_getR (pc := 49) hV 38 21 dX12_sum_49 fX12_87 rfl rfl rfl (by decide) (zx_g38 hσ_40) (by omega) ?_
          refine zr_iload_n (pc := 52) hV dX12_sum_52 rfl rfl ?_
          refine zr_aload_n (pc := 53) hV dX12_sum_53 rfl rfl ?_
          refine zr_getR (pc := 54) hV 45 25 dX12_sum_54 fX12_99 rfl rfl rfl (by decide) (zx_g45 hσ_40) (by omega) ?_
          refine zr_iload_n (pc := 57) hV dX12_sum_57 rfl rfl ?_
          refine zr_iald (pc := 58) hV dX12_sum_58 rfl (by decide) rfl (by omega) ?_
          have t13 := zx_ga25 hσ_40 x2_40
          refine zr_iast (pc := 59) hV dX12_sum_59 rfl (by decide) rfl (by omega) (fun σ59 eσ59 => ?_)
          have hσ59 : zx_T σ59 := zx_ua21 eσ59 hσ_40 (by omega)
          have hFσ59 : ∀ a i : Int, (¬ (a = 0 ∧ i = 14) ∧ ¬ (a = 0 ∧ i = 15) ∧ ¬ (a = 0 ∧ i = 36) ∧ ¬ (a = 0 ∧ i = 37) ∧ ¬ (a = 0 ∧ i = 42) ∧ ¬ (a = 0 ∧ i = 43) ∧ ¬ (a = 0 ∧ i = 44) ∧ a ≠ 21 ∧ a ≠ 22 ∧ a ≠ 23 ∧ a ≠ 24 ∧ a ≠ 25 ∧ a ≠ 26 ∧ a ≠ 27 ∧ a ≠ 28 ∧ a ≠ 29 ∧ a ≠ 30) → σ59 a i = σ a i := fun a i h => by rw [eσ59, zq_up_ne (fun q => h.2.2.2.2.2.2.2.1 q.1)]; exact hFσ_40 a i h
          refine zr_aload_n (pc := 60) hV dX12_sum_60 rfl rfl ?_
          refine zr_getR (pc := 61) hV 39 22 dX12_sum_61 fX12_90 rfl rfl rfl (by decide) (zx_g39 hσ59) (by omega) ?_
          refine zr_iload_n (pc := 64) hV dX12_sum_64 rfl rfl ?_
          refine zr_aload_n (pc := 65) hV dX12_sum_65 rfl rfl ?_
          refine zr_getR (pc := 66) hV 46 26 dX12_sum_66 fX12_102 rfl rfl rfl (by decide) (zx_g46 hσ59) (by omega) ?_
          refine zr_iload_n (pc := 69) hV dX12_sum_69 rfl rfl ?_
          refine zr_iald (pc := 70) hV dX12_sum_70 rfl (by decide) rfl (by omega) ?_
          have t14 := zx_ga26 hσ59 x2_40
          have t15 : σ59 26 x2_40 = σ_40 26 x2_40 := by rw [eσ59]; exact zq_up_ne (by omega)
          refine zr_iast (pc := 71) hV dX12_sum_71 rfl (by decide) rfl (by omega) (fun σ71 eσ71 => ?_)
          have hσ71 : zx_T σ71 := zx_ua22 eσ71 hσ59 (by omega)
          have hFσ71 : ∀ a i : Int, (¬ (a = 0 ∧ i = 14) ∧ ¬ (a = 0 ∧ i = 15) ∧ ¬ (a = 0 ∧ i = 36) ∧ ¬ (a = 0 ∧ i = 37) ∧ ¬ (a = 0 ∧ i = 42) ∧ ¬ (a = 0 ∧ i = 43) ∧ ¬ (a = 0 ∧ i = 44) ∧ a ≠ 21 ∧ a ≠ 22 ∧ a ≠ 23 ∧ a ≠ 24 ∧ a ≠ 25 ∧ a ≠ 26 ∧ a ≠ 27 ∧ a ≠ 28 ∧ a ≠ 29 ∧ a ≠ 30) → σ71 a i = σ a i := fun a i h => by rw [eσ71, zq_up_ne (fun q => h.2.2.2.2.2.2.2.2.1 q.1)]; exact hFσ59 a i h
          refine zr_aload_n (pc := 72) hV dX12_sum_72 rfl rfl ?_
          refine zr_getR (pc := 73) hV 40 23 dX12_sum_73 fX12_93 rfl rfl rfl (by decide) (zx_g40 hσ71) (by omega) ?_
          refine zr_iload_n (pc := 76) hV dX12_sum_76 rfl rfl ?_
          refine zr_aload_n (pc := 77) hV dX12_sum_77 rfl rfl ?_
          refine zr_getR (pc := 78) hV 47 27 dX12_sum_78 fX12_105 rfl rfl rfl (by decide) (zx_g47 hσ71) (by omega) ?_
          refine zr_iload_n (pc := 81) hV dX12_sum_81 rfl rfl ?_
          refine zr_iald (pc := 82) hV dX12_sum_82 rfl (by decide) rfl (by omega) ?_
          have t16 := zx_ga27 hσ71 x2_40
          have t17 : σ71 27 x2_40 = σ59 27 x2_40 := by rw [eσ71]; exact zq_up_ne (by omega)
          have t18 : σ59 27 x2_40 = σ_40 27 x2_40 := by rw [eσ59]; exact zq_up_ne (by omega)
          refine zr_iast (pc := 83) hV dX12_sum_83 rfl (by decide) rfl (by omega) (fun σ83 eσ83 => ?_)
          have hσ83 : zx_T σ83 := zx_ua23 eσ83 hσ71 (by omega)
          have hFσ83 : ∀ a i : Int, (¬ (a = 0 ∧ i = 14) ∧ ¬ (a = 0 ∧ i = 15) ∧ ¬ (a = 0 ∧ i = 36) ∧ ¬ (a = 0 ∧ i = 37) ∧ ¬ (a = 0 ∧ i = 42) ∧ ¬ (a = 0 ∧ i = 43) ∧ ¬ (a = 0 ∧ i = 44) ∧ a ≠ 21 ∧ a ≠ 22 ∧ a ≠ 23 ∧ a ≠ 24 ∧ a ≠ 25 ∧ a ≠ 26 ∧ a ≠ 27 ∧ a ≠ 28 ∧ a ≠ 29 ∧ a ≠ 30) → σ83 a i = σ a i := fun a i h => by rw [eσ83, zq_up_ne (fun q => h.2.2.2.2.2.2.2.2.2.1 q.1)]; exact hFσ71 a i h
          refine zr_aload_n (pc := 84) hV dX12_sum_84 rfl rfl ?_
          refine zr_getR (pc := 85) hV 41 24 dX12_sum_85 fX12_96 rfl rfl rfl (by decide) (zx_g41 hσ83) (by omega) ?_
          refine zr_iload_n (pc := 88) hV dX12_sum_88 rfl rfl ?_
          refine zr_aload_n (pc := 89) hV dX12_sum_89 rfl rfl ?_
          refine zr_getR (pc := 90) hV 48 28 dX12_sum_90 fX12_108 rfl rfl rfl (by decide) (zx_g48 hσ83) (by omega) ?_
          refine zr_iload_n (pc := 93) hV dX12_sum_93 rfl rfl ?_
          refine zr_iald (pc := 94) hV dX12_sum_94 rfl (by decide) rfl (by omega) ?_
          have t19 := zx_ga28 hσ83 x2_40
          have t20 : σ83 28 x2_40 = σ71 28 x2_40 := by rw [eσ83]; exact zq_up_ne (by omega)
          have t21 : σ71 28 x2_40 = σ59 28 x2_40 := by rw [eσ71]; exact zq_up_ne (by omega)
          have t22 : σ59 28 x2_40 = σ_40 28 x2_40 := by rw [eσ59]; exact zq_up_ne (by omega)
          refine zr_iast (pc := 95) hV dX12_sum_95 rfl (by decide) rfl (by omega) (fun σ95 eσ95 => ?_)
          have hσ95 : zx_T σ95 := zx_ua24 eσ95 hσ83 (by omega)
          have hFσ95 : ∀ a i : Int, (¬ (a = 0 ∧ i = 14) ∧ ¬ (a = 0 ∧ i = 15) ∧ ¬ (a = 0 ∧ i = 36) ∧ ¬ (a = 0 ∧ i = 37) ∧ ¬ (a = 0 ∧ i = 42) ∧ ¬ (a = 0 ∧ i = 43) ∧ ¬ (a = 0 ∧ i = 44) ∧ a ≠ 21 ∧ a ≠ 22 ∧ a ≠ 23 ∧ a ≠ 24 ∧ a ≠ 25 ∧ a ≠ 26 ∧ a ≠ 27 ∧ a ≠ 28 ∧ a ≠ 29 ∧ a ≠ 30) → σ95 a i = σ a i := fun a i h => by rw [eσ95, zq_up_ne (fun q => h.2.2.2.2.2.2.2.2.2.2.1 q.1)]; exact hFσ83 a i h
          refine zr_iinc (pc := 96) hV [some (ZR 0), none, some (ZI (x2_40 + 1))] (x2_40 + 1) dX12_sum_96 rfl rfl (by decide) rfl rfl ?_
          refine zr_goto (pc := 99) hV 40 dX12_sum_99 (by decide) ?_
          have t23 := zx_g37 hσ95
          have t24 : σ95 0 37 = σ83 0 37 := by rw [eσ95]; exact zq_up_ne (by omega)
          have t25 : σ83 0 37 = σ71 0 37 := by rw [eσ83]; exact zq_up_ne (by omega)
          have t26 : σ71 0 37 = σ59 0 37 := by rw [eσ71]; exact zq_up_ne (by omega)
          have t27 : σ59 0 37 = σ_40 0 37 := by rw [eσ59]; exact zq_up_ne (by omega)
          have t28 := zx_g14 hσ95
          have t29 : σ95 0 14 = σ83 0 14 := by rw [eσ95]; exact zq_up_ne (by omega)
          have t30 : σ83 0 14 = σ71 0 14 := by rw [eσ83]; exact zq_up_ne (by omega)
          have t31 : σ71 0 14 = σ59 0 14 := by rw [eσ71]; exact zq_up_ne (by omega)
          have t32 : σ59 0 14 = σ_40 0 14 := by rw [eσ59]; exact zq_up_ne (by omega)
          exact ih40 (x2_40 + 1) σ95 (by omega) hσ95 hFσ95 (fun j h1 h2 => if hc : j = x2_40 then (by rw [hc]; exact ⟨by rw [eσ95, zq_up_ne (by omega), eσ83, zq_up_ne (by omega), eσ71, zq_up_ne (by omega), eσ59, zq_up_same]; exact (hi40_1 x2_40).1, by rw [eσ95, zq_up_ne (by omega), eσ83, zq_up_same, eσ71, zq_up_ne (by omega), eσ59, zq_up_ne (by omega)]; exact (hi40_1 x2_40).2.1, by rw [eσ95, zq_up_same, eσ83, zq_up_ne (by omega), eσ71, zq_up_ne (by omega), eσ59, zq_up_ne (by omega)]; exact (hi40_1 x2_40).2.2⟩) else ⟨by rw [eσ95, zq_up_ne (by omega), eσ83, zq_up_ne (by omega), eσ71, zq_up_ne (by omega), eσ59, zq_up_ne (by omega)]; exact (hi40_0 j h1 (by omega)).1, by rw [eσ95, zq_up_ne (by omega), eσ83, zq_up_ne (by omega), eσ71, zq_up_ne (by omega), eσ59, zq_up_ne (by omega)]; exact (hi40_0 j h1 (by omega)).2.1, by rw [eσ95, zq_up_ne (by omega), eσ83, zq_up_ne (by omega), eσ71, zq_up_ne (by omega), eσ59, zq_up_ne (by omega)]; exact (hi40_0 j h1 (by omega)).2.2⟩) (fun i => ⟨by rw [eσ95, zq_up_ne (by omega), eσ83, zq_up_ne (by omega), eσ71, zq_up_ne (by omega), eσ59, zq_up_ne (by omega)]; exact (hi40_1 i).1, by rw [eσ95, zq_up_ne (by omega), eσ83, zq_up_ne (by omega), eσ71, zq_up_ne (by omega), eσ59, zq_up_ne (by omega)]; exact (hi40_1 i).2.1, by rw [eσ95, zq_up_ne (by omega), eσ83, zq_up_ne (by omega), eσ71, zq_up_ne (by omega), eσ59, zq_up_ne (by omega)]; exact (hi40_1 i).2.2⟩) (by omega) (by omega) (by omega)
    have t33 := zx_g37 hσ35
    have t34 : σ35 0 37 = σ27 0 37 := by rw [eσ35]; exact zq_up_ne (by omega)
    have t35 : σ27 0 37 = σ7 0 43 := by rw [eσ27]; exact zq_up_same _ _ _ _
    have t36 := zx_g14 hσ35
    have t37 : σ35 0 14 = σ27 0 14 := by rw [eσ35]; exact zq_up_ne (by omega)
    have t38 : σ27 0 14 = σ7 0 14 := by rw [eσ27]; exact zq_up_ne (by omega)
    have t39 : σ7 0 14 = 0 := by rw [eσ7]; exact zq_up_same _ _ _ _
    refine zr_sub (pc := 40) hV [some (ZR 0), none, some (ZI 0)] (⟨rfl, rfl, trivial⟩) ?_
    exact L40 (39 - (0 : Int) + 1 : Int).toNat 0 σ35 (by omega) hσ35 hFσ35 (fun j h1 h2 => absurd h2 (by omega)) (fun i => ⟨by rw [eσ35, zq_up_ne (by omega), eσ27, zq_up_ne (by omega), eσ7, zq_up_ne (by omega)], by rw [eσ35, zq_up_ne (by omega), eσ27, zq_up_ne (by omega), eσ7, zq_up_ne (by omega)], by rw [eσ35, zq_up_ne (by omega), eσ27, zq_up_ne (by omega), eσ7, zq_up_ne (by omega)]⟩) (by omega) (by omega) (by omega)
  · show V 14 [some (ZR 0), some (ZI r1), none] [] 41 σ7
    refine zr_bipush (pc := 14) hV (-20) dX12_sum_14 (by decide) ?_
    refine zr_aload_n (pc := 16) hV dX12_sum_16 rfl rfl ?_
    refine zr_getI (pc := 17) hV 15 dX12_sum_17 fX12_200 rfl rfl rfl (by decide) ?_
    have t40 := zx_g15 hσ7
    have t41 : σ7 0 15 = σ1 0 15 := by rw [eσ7]; exact zq_up_ne (by omega)
    refine zr_isub (pc := 20) hV dX12_sum_20 ?_
    have t42 := zx_g14 hσ7
    have t43 : σ7 0 14 = 0 := by rw [eσ7]; exact zq_up_same _ _ _ _
    exact zr_iret (pc := 21) hV dX12_sum_21 rfl rfl ⟨_, rfl, (by omega), hσ7, hFσ7, (by omega), Uσ7⟩
