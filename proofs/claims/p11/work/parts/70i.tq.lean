set_option maxHeartbeats 800000 in
theorem c_X9_isBits_2 {σ : zq_S} (hσ : zc_T σ) (bits : Int) (q0 : zq_in bits) : zq_C zc_w yX9_isBits cX9_isBits 2 (some .boolean) 1 20 284 284 [ZR 3, ZI bits] σ (zq_pp σ (fun r => (0 ≤ r ∧ r ≤ 1) ∧ (r = 1 → 0 ≤ bits ∧ bits ≤ 4095) ∧ (r = 1 ↔ 0 ≤ bits ∧ bits < zx_p2 (σ 3 2)))) := by
  refine zq_C_of (by decide) (Nat.le_refl _) (Nat.le_of_ble_eq_true rfl) [some (ZR 3), some (ZI bits)] rfl (fun V hV => ?_)
  show V 0 [some (ZR 3), some (ZI bits)] [] 284 σ
  refine zr_iload_n (pc := 0) hV dX9_isBits_0 rfl rfl ?_
  refine zr_if_lt (pc := 1) hV 16 dX9_isBits_1 (by decide) (by omega) (fun c1 => ?_) (fun c1 => ?_)
  · show V 16 [some (ZR 3), some (ZI bits)] [] 284 σ
    refine zr_iconst (pc := 16) hV 0 dX9_isBits_16 rfl ?_
    show V 17 [some (ZR 3), some (ZI bits)] [ZI 0] 284 σ
    exact zr_zret (pc := 17) hV dX9_isBits_17 rfl rfl (by omega) ⟨rfl, _, rfl, ⟨by decide, by decide⟩, (by omega)⟩
  · show V 4 [some (ZR 3), some (ZI bits)] [] 284 σ
    refine zr_iload_n (pc := 4) hV dX9_isBits_4 rfl rfl ?_
    refine zr_aload_n (pc := 5) hV dX9_isBits_5 rfl rfl ?_
    refine zr_callVp (pc := 6) hV [] (st := [ZI bits]) (c_X9_bitsInAll_2 (σ := σ) hσ) dX9_isBits_6 mX9_48 (zc_k3 zc_s3) (zc_pos zc_s3 rfl) (by decide) (Nat.le_of_ble_eq_true rfl) (Nat.le_refl _) (fun r6 hr6 pr6 => ?_)
    have t2 := zc_g3_2 hσ zc_s3
    refine zr_icmp_ge (pc := 9) hV 16 dX9_isBits_9 (by decide) (by omega) (by omega) (fun c3 => ?_) (fun c3 => ?_)
    · show V 16 [some (ZR 3), some (ZI bits)] [] 284 σ
      refine zr_iconst (pc := 16) hV 0 dX9_isBits_16 rfl ?_
      show V 17 [some (ZR 3), some (ZI bits)] [ZI 0] 284 σ
      exact zr_zret (pc := 17) hV dX9_isBits_17 rfl rfl (by omega) ⟨rfl, _, rfl, ⟨by decide, by decide⟩, (by omega)⟩
    · show V 12 [some (ZR 3), some (ZI bits)] [] 284 σ
      refine zr_iconst (pc := 12) hV 1 dX9_isBits_12 rfl ?_
      refine zr_goto (pc := 13) hV 17 dX9_isBits_13 (by decide) ?_
      show V 17 [some (ZR 3), some (ZI bits)] [ZI 1] 284 σ
      exact zr_zret (pc := 17) hV dX9_isBits_17 rfl rfl (by omega) ⟨rfl, _, rfl, ⟨by decide, by decide⟩, (by omega)⟩
set_option maxHeartbeats 800000 in
theorem c_X9_firstHole_2 {σ : zq_S} (hσ : zc_T σ) (from_ : Int) (q0 : 0 ≤ from_ ∧ from_ ≤ 4095) : zq_C zc_w yX9_firstHole cX9_firstHole 3 (some .int) 1 20 284 284 [ZR 3, ZI from_] σ (zq_pp σ (fun r => zq_hid (zu_first (fun y => σ 11 y = -1) from_ (zx_p2 (σ 3 2)) r))) := by
  refine zq_C_of (by decide) (Nat.le_refl _) (Nat.le_of_ble_eq_true rfl) [some (ZR 3), some (ZI from_), none] rfl (fun V hV => ?_)
  show V 0 [some (ZR 3), some (ZI from_), none] [] 284 σ
  refine zr_iload_n (pc := 0) hV dX9_firstHole_0 rfl rfl ?_
  refine zr_istore_n (pc := 1) hV [some (ZR 3), some (ZI from_), some (ZI from_)] dX9_firstHole_1 rfl (by decide) rfl rfl ?_
  have L2 : ∀ (fuel : Nat) (x2_2 : Int), (0 ≤ x2_2 ∧ x2_2 ≤ 4096) → (zq_hid (∀ y, from_ ≤ y → y < x2_2 → ¬ (σ 11 y = -1))) → (from_ ≤ x2_2) → 4096 - x2_2 < (fuel : Int) → V 2 [some (ZR 3), none, some (ZI x2_2)] [] 284 σ := by
    intro fuel
    induction fuel with
    | zero =>
      intro x2_2 hx2_2 hi2_0 hi2_1 hm2
      exfalso; omega
    | succ fuel ih =>
      intro x2_2 hx2_2 hi2_0 hi2_1 hm2
      have ih2 := ih
      show V 2 [some (ZR 3), none, some (ZI x2_2)] [] 284 σ
      refine zr_iload_n (pc := 2) hV dX9_firstHole_2 rfl rfl ?_
      refine zr_aload_n (pc := 3) hV dX9_firstHole_3 rfl rfl ?_
      refine zr_callVp (pc := 4) hV [] (st := [ZI x2_2]) (c_X9_bitsInAll_2 (σ := σ) hσ) dX9_firstHole_4 mX9_48 (zc_k3 zc_s3) (zc_pos zc_s3 rfl) (by decide) (Nat.le_of_ble_eq_true rfl) (Nat.le_refl _) (fun r4 hr4 pr4 => ?_)
      have t1 := zc_g3_2 hσ zc_s3
      refine zr_icmp_ge (pc := 7) hV 28 dX9_firstHole_7 (by decide) (by omega) (by omega) (fun c2 => ?_) (fun c2 => ?_)
      · show V 28 [some (ZR 3), none, some (ZI x2_2)] [] 284 σ
        refine zr_bipush (pc := 28) hV (-4) dX9_firstHole_28 (by decide) ?_
        exact zr_iret (pc := 30) hV dX9_firstHole_30 rfl rfl ⟨rfl, _, rfl, ⟨by decide, by decide⟩, ⟨fun h => absurd h (by decide), fun _ => ⟨rfl, fun y h0 h1 => hi2_0 y h0 (by omega)⟩⟩⟩
      · show V 10 [some (ZR 3), none, some (ZI x2_2)] [] 284 σ
        refine zr_aload_n (pc := 10) hV dX9_firstHole_10 rfl rfl ?_
        refine zr_getR (pc := 11) hV 7 11 dX9_firstHole_11 fX9_22 rfl rfl (zc_k3 zc_s3) (zc_pos zc_s3 rfl) (zc_g3_7 hσ zc_s3) (by decide) ?_
        refine zr_iload_n (pc := 14) hV dX9_firstHole_14 rfl rfl ?_
        refine zr_iald (pc := 15) hV dX9_firstHole_15 (zc_k11 zc_s11) (zc_pos zc_s11 rfl) rfl (by omega) ?_
        have t3 := zc_ga11 hσ zc_s11 x2_2
        refine zr_iconst (pc := 16) hV (-1) dX9_firstHole_16 rfl ?_
        refine zr_icmp_ne (pc := 17) hV 22 dX9_firstHole_17 (by decide) (by omega) ⟨by decide, by decide⟩ (fun c4 => ?_) (fun c4 => ?_)
        · show V 22 [some (ZR 3), none, some (ZI x2_2)] [] 284 σ
          refine zr_iinc (pc := 22) hV [some (ZR 3), none, some (ZI (x2_2 + 1))] (x2_2 + 1) dX9_firstHole_22 rfl rfl (by decide) rfl rfl ?_
          refine zr_goto (pc := 25) hV 2 dX9_firstHole_25 (by decide) ?_
          exact ih2 (x2_2 + 1) (by omega) (fun y h0 h1 => if hc : y = x2_2 then (by rw [hc]; exact fun q => absurd q (by omega)) else hi2_0 y h0 (by omega)) (by omega) (by omega)
        · show V 20 [some (ZR 3), none, some (ZI x2_2)] [] 284 σ
          refine zr_iload_n (pc := 20) hV dX9_firstHole_20 rfl rfl ?_
          exact zr_iret (pc := 21) hV dX9_firstHole_21 rfl rfl ⟨rfl, _, rfl, (by omega), ⟨fun _ => ⟨by omega, by omega, by omega, hi2_0⟩, fun h => absurd h (by omega)⟩⟩
  refine zr_sub (pc := 2) hV [some (ZR 3), none, some (ZI from_)] (⟨rfl, rfl, trivial⟩) ?_
  exact L2 (4096 - from_ + 1 : Int).toNat from_ (by omega) (fun y h0 h1 => absurd h1 (by omega)) (by omega) (by omega)
set_option maxHeartbeats 800000 in
theorem c_X11_hole_2 {σ : zq_S} (hσ : zc_T σ) (from_ : Int) (q0 : zq_in from_) (Uσ : zc_U σ) : zq_C zc_w yX11_hole cX11_hole 2 (some .int) 2 42 284 284 [ZR 0, ZI from_] σ (zq_pp σ (fun r => (¬ (0 ≤ from_ ∧ from_ < zx_p2 (σ 3 2)) → r = -1) ∧ zq_hid (0 ≤ from_ ∧ from_ < zx_p2 (σ 3 2) → zu_first (fun y => σ 11 y = -1) from_ (zx_p2 (σ 3 2)) r))) := by
  refine zq_C_of (by decide) (Nat.le_refl _) (Nat.le_of_ble_eq_true rfl) [some (ZR 0), some (ZI from_)] rfl (fun V hV => ?_)
  show V 0 [some (ZR 0), some (ZI from_)] [] 284 σ
  refine zr_aload_n (pc := 0) hV dX11_hole_0 rfl rfl ?_
  refine zr_getR (pc := 1) hV 1 3 dX11_hole_1 fX11_19 rfl rfl (zc_k0 zc_s0) (zc_pos zc_s0 rfl) (zc_g0_1 hσ zc_s0) (by decide) ?_
  refine zr_iload_n (pc := 4) hV dX11_hole_4 rfl rfl ?_
  refine zr_callVp (pc := 5) hV [ZI from_] (st := []) (c_X9_isBits_2 (σ := σ) hσ from_ (by omega)) dX11_hole_5 mX11_127 (zc_k3 zc_s3) (zc_pos zc_s3 rfl) (by decide) (Nat.le_of_ble_eq_true rfl) (Nat.le_refl _) (fun r5 hr5 pr5 => ?_)
  have t1 := zc_g3_2 hσ zc_s3
  refine zr_if_eq (pc := 8) hV 22 dX11_hole_8 (by decide) (by omega) (fun c2 => ?_) (fun c2 => ?_)
  · show V 22 [some (ZR 0), some (ZI from_)] [] 284 σ
    refine zr_iconst (pc := 22) hV (-1) dX11_hole_22 rfl ?_
    show V 23 [some (ZR 0), some (ZI from_)] [ZI (-1)] 284 σ
    exact zr_iret (pc := 23) hV dX11_hole_23 rfl rfl ⟨rfl, _, rfl, ⟨by decide, by decide⟩, ⟨fun _ => by omega, fun h => absurd h (by omega)⟩⟩
  · show V 11 [some (ZR 0), some (ZI from_)] [] 284 σ
    refine zr_aload_n (pc := 11) hV dX11_hole_11 rfl rfl ?_
    refine zr_getR (pc := 12) hV 1 3 dX11_hole_12 fX11_19 rfl rfl (zc_k0 zc_s0) (zc_pos zc_s0 rfl) (zc_g0_1 hσ zc_s0) (by decide) ?_
    refine zr_iload_n (pc := 15) hV dX11_hole_15 rfl rfl ?_
    refine zr_callVp (pc := 16) hV [ZI from_] (st := []) (c_X9_firstHole_2 (σ := σ) hσ from_ (by omega)) dX11_hole_16 mX11_147 (zc_k3 zc_s3) (zc_pos zc_s3 rfl) (by decide) (Nat.le_of_ble_eq_true rfl) (Nat.le_refl _) (fun r16 hr16 pr16 => ?_)
    have t3 := zc_g3_2 hσ zc_s3
    refine zr_goto (pc := 19) hV 23 dX11_hole_19 (by decide) ?_
    show V 23 [some (ZR 0), some (ZI from_)] [ZI r16] 284 σ
    exact zr_iret (pc := 23) hV dX11_hole_23 rfl rfl ⟨rfl, _, rfl, (by omega), ⟨fun h => absurd (by omega) h, fun _ => pr16⟩⟩
