set_option maxHeartbeats 800000 in
theorem c_X9_tellAlike_2 {σ : zq_S} (hσ : zc_T σ) (bits : Int) (nextBits : Int) (q0 : 0 ≤ bits ∧ bits ≤ 4095) (q1 : 0 ≤ nextBits ∧ nextBits ≤ 4095) : zq_C zc_w yX9_tellAlike cX9_tellAlike 6 (some .boolean) 2 42 284 284 [ZR 3, ZI bits, ZI nextBits] σ (zq_pp σ (fun r => (0 ≤ r ∧ r ≤ 1) ∧ zq_hid ((0 ≤ σ 11 bits ∧ σ 11 bits < σ 3 3) ∧ (0 ≤ σ 11 nextBits ∧ σ 11 nextBits < σ 3 3) → (r = 1 ↔ zk_ca σ (σ 10 (σ 11 bits)) (σ 10 (σ 11 nextBits)) bits nextBits)))) := by
  refine zq_C_of (by decide) (Nat.le_refl _) (Nat.le_of_ble_eq_true rfl) [some (ZR 3), some (ZI bits), some (ZI nextBits), none, none, none] rfl (fun V hV => ?_)
  show V 0 [some (ZR 3), some (ZI bits), some (ZI nextBits), none, none, none] [] 284 σ
  refine zr_aload_n (pc := 0) hV dX9_tellAlike_0 rfl rfl ?_
  refine zr_iload_n (pc := 1) hV dX9_tellAlike_1 rfl rfl ?_
  refine zr_callVr (pc := 2) hV [ZI bits] (st := []) (c_X9_orderOf_2 (σ := σ) hσ bits (by omega)) dX9_tellAlike_2 mX9_101 (zc_k3 zc_s3) (zc_pos zc_s3 rfl) (by decide) (Nat.le_of_ble_eq_true rfl) (Nat.le_refl _) (fun r2 pr2 => ?_)
  refine zr_astore_nQ (pc := 5) hV [some (ZR 3), some (ZI bits), some (ZI nextBits), some (zq_nr r2), none, none] dX9_tellAlike_5 rfl (by decide) rfl rfl ?_
  refine zr_aload_n (pc := 6) hV dX9_tellAlike_6 rfl rfl ?_
  refine zr_iload_n (pc := 7) hV dX9_tellAlike_7 rfl rfl ?_
  refine zr_callVr (pc := 8) hV [ZI nextBits] (st := []) (c_X9_orderOf_2 (σ := σ) hσ nextBits (by omega)) dX9_tellAlike_8 mX9_101 (zc_k3 zc_s3) (zc_pos zc_s3 rfl) (by decide) (Nat.le_of_ble_eq_true rfl) (Nat.le_refl _) (fun r8 pr8 => ?_)
  refine zr_astoreQ (pc := 11) hV [some (ZR 3), some (ZI bits), some (ZI nextBits), some (zq_nr r2), some (zq_nr r8), none] dX9_tellAlike_11 (by decide) (by simp only [zq_nr]; split <;> rfl) rfl ?_
  refine zr_aload_nQ (pc := 13) hV dX9_tellAlike_13 rfl rfl ?_
  by_cases c1 : r2 < 0
  · rw [zq_nr_n c1]
    refine zr_ifnullN (pc := 14) hV 22 dX9_tellAlike_14 (by decide) ?_
    show V 22 [some (ZR 3), some (ZI bits), some (ZI nextBits), some (ZN), some (zq_nr r8), none] [] 284 σ
    refine zr_iconst (pc := 22) hV 0 dX9_tellAlike_22 rfl ?_
    exact zr_zret (pc := 23) hV dX9_tellAlike_23 rfl rfl (by omega) ⟨rfl, _, rfl, ⟨by decide, by decide⟩, ⟨by omega, (by intro h; first | exact absurd h.1 (pr2.2.2 (by omega)) | exact absurd h.2 (pr8.2.2 (by omega)) | (have z2 := (pr2.2.1 (by omega)).2; have z8 := (pr8.2.1 (by omega)).2; refine ⟨fun q => absurd q (by omega), fun q => ?_⟩; exfalso; rw [← z2, ← z8] at q; have y := q x5_27 (by omega) (by omega) (pr36.2.mp (by omega)) (pr46.2.mp (by omega)); rw [← pr56.2, ← pr64.2] at y; omega))⟩⟩
  · rw [zq_nr_p c1]
    have kr2 : zc_kd r2 = 4 := pr2.1 (by omega)
    have por2 := zc_pos kr2 rfl
    refine zr_ifnull (pc := 14) hV dX9_tellAlike_14 ?_
    show V 17 [some (ZR 3), some (ZI bits), some (ZI nextBits), some (ZR r2), some (zq_nr r8), none] [] 284 σ
    refine zr_aloadQ (pc := 17) hV dX9_tellAlike_17 rfl ?_
    by_cases c2 : r8 < 0
    · rw [zq_nr_n c2]
      refine zr_ifnonnullN (pc := 19) hV dX9_tellAlike_19 ?_
      show V 22 [some (ZR 3), some (ZI bits), some (ZI nextBits), some (ZR r2), some (ZN), none] [] 284 σ
      refine zr_iconst (pc := 22) hV 0 dX9_tellAlike_22 rfl ?_
      exact zr_zret (pc := 23) hV dX9_tellAlike_23 rfl rfl (by omega) ⟨rfl, _, rfl, ⟨by decide, by decide⟩, ⟨by omega, (by intro h; first | exact absurd h.1 (pr2.2.2 (by omega)) | exact absurd h.2 (pr8.2.2 (by omega)) | (have z2 := (pr2.2.1 (by omega)).2; have z8 := (pr8.2.1 (by omega)).2; refine ⟨fun q => absurd q (by omega), fun q => ?_⟩; exfalso; rw [← z2, ← z8] at q; have y := q x5_27 (by omega) (by omega) (pr36.2.mp (by omega)) (pr46.2.mp (by omega)); rw [← pr56.2, ← pr64.2] at y; omega))⟩⟩
    · rw [zq_nr_p c2]
      have kr8 : zc_kd r8 = 4 := pr8.1 (by omega)
      have por8 := zc_pos kr8 rfl
      refine zr_ifnonnull (pc := 19) hV 24 dX9_tellAlike_19 (by decide) ?_
      show V 24 [some (ZR 3), some (ZI bits), some (ZI nextBits), some (ZR r2), some (ZR r8), none] [] 284 σ
      refine zr_iconst (pc := 24) hV 0 dX9_tellAlike_24 rfl ?_
      refine zr_istore (pc := 25) hV [some (ZR 3), some (ZI bits), some (ZI nextBits), some (ZR r2), some (ZR r8), some (ZI 0)] dX9_tellAlike_25 (by decide) rfl rfl ?_
      have L27 : ∀ (fuel : Nat) (x5_27 : Int), (0 ≤ x5_27 ∧ x5_27 ≤ 4) → (zq_hid (∀ f, 0 ≤ f → f < x5_27 → σ (r2 + 1) f ≠ 0 → σ (r8 + 1) f ≠ 0 → zu_fo (zu_cM (σ (r2 + 1) f)) (zu_cM bits) 12 = zu_fo (zu_cM (σ (r8 + 1) f)) (zu_cM nextBits) 12)) → 4 - x5_27 < (fuel : Int) → V 27 [none, some (ZI bits), some (ZI nextBits), some (ZR r2), some (ZR r8), some (ZI x5_27)] [] 284 σ := by
        intro fuel
        induction fuel with
        | zero =>
          intro x5_27 hx5_27 hi27_0 hm27
          exfalso; omega
        | succ fuel ih =>
          intro x5_27 hx5_27 hi27_0 hm27
          have ih27 := ih
          show V 27 [none, some (ZI bits), some (ZI nextBits), some (ZR r2), some (ZR r8), some (ZI x5_27)] [] 284 σ
          refine zr_iload (pc := 27) hV dX9_tellAlike_27 rfl ?_
          refine zr_iconst (pc := 29) hV 3 dX9_tellAlike_29 rfl ?_
          refine zr_icmp_gt (pc := 30) hV 78 dX9_tellAlike_30 (by decide) (by omega) ⟨by decide, by decide⟩ (fun c3 => ?_) (fun c3 => ?_)
          · show V 78 [none, some (ZI bits), some (ZI nextBits), some (ZR r2), some (ZR r8), some (ZI x5_27)] [] 284 σ
            refine zr_iconst (pc := 78) hV 1 dX9_tellAlike_78 rfl ?_
            exact zr_zret (pc := 79) hV dX9_tellAlike_79 rfl rfl (by omega) ⟨rfl, _, rfl, ⟨by decide, by decide⟩, ⟨by omega, (by intro h; have z2 := (pr2.2.1 (by omega)).2; have z8 := (pr8.2.1 (by omega)).2; refine ⟨fun _ => ?_, fun _ => rfl⟩; rw [← z2, ← z8]; exact fun f f0 f3 => hi27_0 f f0 (by omega))⟩⟩
          · show V 33 [none, some (ZI bits), some (ZI nextBits), some (ZR r2), some (ZR r8), some (ZI x5_27)] [] 284 σ
            refine zr_aload_n (pc := 33) hV dX9_tellAlike_33 rfl rfl ?_
            refine zr_iload (pc := 34) hV dX9_tellAlike_34 rfl ?_
            refine zr_callVp (pc := 36) hV [ZI x5_27] (st := []) (c_X3_hasField_2 (σ := σ) hσ r2 kr2 x5_27 (by omega)) dX9_tellAlike_36 mX9_104 (zc_k4 kr2) (zc_pos kr2 rfl) (by decide) (Nat.le_of_ble_eq_true rfl) (Nat.le_refl _) (fun r36 hr36 pr36 => ?_)
            refine zr_if_eq (pc := 39) hV 72 dX9_tellAlike_39 (by decide) (by omega) (fun c4 => ?_) (fun c4 => ?_)
            · show V 72 [none, some (ZI bits), some (ZI nextBits), some (ZR r2), some (ZR r8), some (ZI x5_27)] [] 284 σ
              refine zr_iinc (pc := 72) hV [none, some (ZI bits), some (ZI nextBits), some (ZR r2), some (ZR r8), some (ZI (x5_27 + 1))] (x5_27 + 1) dX9_tellAlike_72 rfl rfl (by decide) rfl rfl ?_
              refine zr_goto (pc := 75) hV 27 dX9_tellAlike_75 (by decide) ?_
              exact ih27 (x5_27 + 1) (by omega) (fun f f0 f1 h1 h2 => if hc : f = x5_27 then (by rw [hc] at h1 h2 ⊢; first | exact absurd (pr36.2.mpr h1) (by omega) | exact absurd (pr46.2.mpr h2) (by omega) | (rw [← pr56.2, ← pr64.2]; omega)) else hi27_0 f f0 (by omega) h1 h2) (by omega)
            · show V 42 [none, some (ZI bits), some (ZI nextBits), some (ZR r2), some (ZR r8), some (ZI x5_27)] [] 284 σ
              refine zr_aload (pc := 42) hV dX9_tellAlike_42 rfl ?_
              refine zr_iload (pc := 44) hV dX9_tellAlike_44 rfl ?_
              refine zr_callVp (pc := 46) hV [ZI x5_27] (st := []) (c_X3_hasField_2 (σ := σ) hσ r8 kr8 x5_27 (by omega)) dX9_tellAlike_46 mX9_104 (zc_k4 kr8) (zc_pos kr8 rfl) (by decide) (Nat.le_of_ble_eq_true rfl) (Nat.le_refl _) (fun r46 hr46 pr46 => ?_)
              refine zr_if_eq (pc := 49) hV 72 dX9_tellAlike_49 (by decide) (by omega) (fun c5 => ?_) (fun c5 => ?_)
              · show V 72 [none, some (ZI bits), some (ZI nextBits), some (ZR r2), some (ZR r8), some (ZI x5_27)] [] 284 σ
                refine zr_iinc (pc := 72) hV [none, some (ZI bits), some (ZI nextBits), some (ZR r2), some (ZR r8), some (ZI (x5_27 + 1))] (x5_27 + 1) dX9_tellAlike_72 rfl rfl (by decide) rfl rfl ?_
                refine zr_goto (pc := 75) hV 27 dX9_tellAlike_75 (by decide) ?_
                exact ih27 (x5_27 + 1) (by omega) (fun f f0 f1 h1 h2 => if hc : f = x5_27 then (by rw [hc] at h1 h2 ⊢; first | exact absurd (pr36.2.mpr h1) (by omega) | exact absurd (pr46.2.mpr h2) (by omega) | (rw [← pr56.2, ← pr64.2]; omega)) else hi27_0 f f0 (by omega) h1 h2) (by omega)
              · show V 52 [none, some (ZI bits), some (ZI nextBits), some (ZR r2), some (ZR r8), some (ZI x5_27)] [] 284 σ
                refine zr_aload_n (pc := 52) hV dX9_tellAlike_52 rfl rfl ?_
                refine zr_iload_n (pc := 53) hV dX9_tellAlike_53 rfl rfl ?_
                refine zr_iload (pc := 54) hV dX9_tellAlike_54 rfl ?_
                refine zr_callVp (pc := 56) hV [ZI bits, ZI x5_27] (st := []) (c_X3_fieldOf_2 (σ := σ) hσ r2 kr2 bits x5_27 (by omega) (by omega)) dX9_tellAlike_56 mX9_107 (zc_k4 kr2) (zc_pos kr2 rfl) (by decide) (Nat.le_of_ble_eq_true rfl) (Nat.le_refl _) (fun r56 hr56 pr56 => ?_)
                refine zr_aload (pc := 59) hV dX9_tellAlike_59 rfl ?_
                refine zr_iload_n (pc := 61) hV dX9_tellAlike_61 rfl rfl ?_
                refine zr_iload (pc := 62) hV dX9_tellAlike_62 rfl ?_
                refine zr_callVp (pc := 64) hV [ZI nextBits, ZI x5_27] (st := [ZI r56]) (c_X3_fieldOf_2 (σ := σ) hσ r8 kr8 nextBits x5_27 (by omega) (by omega)) dX9_tellAlike_64 mX9_107 (zc_k4 kr8) (zc_pos kr8 rfl) (by decide) (Nat.le_of_ble_eq_true rfl) (Nat.le_refl _) (fun r64 hr64 pr64 => ?_)
                refine zr_icmp_eq (pc := 67) hV 72 dX9_tellAlike_67 (by decide) (by omega) (by omega) (fun c6 => ?_) (fun c6 => ?_)
                · show V 72 [none, some (ZI bits), some (ZI nextBits), some (ZR r2), some (ZR r8), some (ZI x5_27)] [] 284 σ
                  refine zr_iinc (pc := 72) hV [none, some (ZI bits), some (ZI nextBits), some (ZR r2), some (ZR r8), some (ZI (x5_27 + 1))] (x5_27 + 1) dX9_tellAlike_72 rfl rfl (by decide) rfl rfl ?_
                  refine zr_goto (pc := 75) hV 27 dX9_tellAlike_75 (by decide) ?_
                  exact ih27 (x5_27 + 1) (by omega) (fun f f0 f1 h1 h2 => if hc : f = x5_27 then (by rw [hc] at h1 h2 ⊢; first | exact absurd (pr36.2.mpr h1) (by omega) | exact absurd (pr46.2.mpr h2) (by omega) | (rw [← pr56.2, ← pr64.2]; omega)) else hi27_0 f f0 (by omega) h1 h2) (by omega)
                · show V 70 [none, some (ZI bits), some (ZI nextBits), some (ZR r2), some (ZR r8), some (ZI x5_27)] [] 284 σ
                  refine zr_iconst (pc := 70) hV 0 dX9_tellAlike_70 rfl ?_
                  exact zr_zret (pc := 71) hV dX9_tellAlike_71 rfl rfl (by omega) ⟨rfl, _, rfl, ⟨by decide, by decide⟩, ⟨by omega, (by intro h; first | exact absurd h.1 (pr2.2.2 (by omega)) | exact absurd h.2 (pr8.2.2 (by omega)) | (have z2 := (pr2.2.1 (by omega)).2; have z8 := (pr8.2.1 (by omega)).2; refine ⟨fun q => absurd q (by omega), fun q => ?_⟩; exfalso; rw [← z2, ← z8] at q; have y := q x5_27 (by omega) (by omega) (pr36.2.mp (by omega)) (pr46.2.mp (by omega)); rw [← pr56.2, ← pr64.2] at y; omega))⟩⟩
      refine zr_sub (pc := 27) hV [none, some (ZI bits), some (ZI nextBits), some (ZR r2), some (ZR r8), some (ZI 0)] (⟨rfl, rfl, rfl, rfl, rfl, trivial⟩) ?_
      exact L27 (4 - (0 : Int) + 1 : Int).toNat 0 (by omega) (fun f f0 f1 => absurd f1 (by omega)) (by omega)
set_option maxHeartbeats 800000 in
theorem c_X9_countPairs_2 {σ : zq_S} (hσ : zc_T σ) (a : Int) (b : Int) (end_ : Int) (q0 : zq_in a) (q1 : zq_in b) (q2 : 0 ≤ end_ ∧ end_ ≤ 64) (q3 : 0 ≤ a ∧ a < σ 3 3) (q4 : 0 ≤ b ∧ b < σ 3 3) (q5 : zq_hid (∀ i, 0 ≤ i → i < 64 → 0 ≤ σ 139 i ∧ σ 139 i ≤ 4095)) : zq_C zc_w yX9_countPairs cX9_countPairs 7 (some .int) 3 67 284 284 [ZR 3, ZR 139, ZI a, ZI b, ZI end_] σ (zq_pp σ (fun r => (0 ≤ r ∧ r ≤ 64) ∧ r = zk_P (fun x => zk_b (zk_c σ a b x)) end_ 0)) := by
  refine zq_C_of (by decide) (Nat.le_refl _) (Nat.le_of_ble_eq_true rfl) [some (ZR 3), some (ZR 139), some (ZI a), some (ZI b), some (ZI end_), none, none] rfl (fun V hV => ?_)
  show V 0 [some (ZR 3), some (ZR 139), some (ZI a), some (ZI b), some (ZI end_), none, none] [] 284 σ
  refine zr_iconst (pc := 0) hV 0 dX9_countPairs_0 rfl ?_
  refine zr_istore (pc := 1) hV [some (ZR 3), some (ZR 139), some (ZI a), some (ZI b), some (ZI end_), some (ZI 0), none] dX9_countPairs_1 (by decide) rfl rfl ?_
  refine zr_iconst (pc := 3) hV 0 dX9_countPairs_3 rfl ?_
  refine zr_istore (pc := 4) hV [some (ZR 3), some (ZR 139), some (ZI a), some (ZI b), some (ZI end_), some (ZI 0), some (ZI 0)] dX9_countPairs_4 (by decide) rfl rfl ?_
  have L6 : ∀ (fuel : Nat) (x5_6 : Int) (x6_6 : Int), (0 ≤ x5_6 ∧ x5_6 ≤ 64) → (0 ≤ x6_6 ∧ x6_6 ≤ 64) → (x5_6 ≤ x6_6) → (zq_hid (x5_6 + zk_P (fun x => zk_b (zk_c σ a b x)) end_ x6_6 = zk_P (fun x => zk_b (zk_c σ a b x)) end_ 0)) → 66 - x6_6 < (fuel : Int) → V 6 [some (ZR 3), some (ZR 139), some (ZI a), some (ZI b), some (ZI end_), some (ZI x5_6), some (ZI x6_6)] [] 284 σ := by
    intro fuel
    induction fuel with
    | zero =>
      intro x5_6 x6_6 hx5_6 hx6_6 hi6_0 hi6_1 hm6
      exfalso; omega
    | succ fuel ih =>
      intro x5_6 x6_6 hx5_6 hx6_6 hi6_0 hi6_1 hm6
      have ih6 := ih
      show V 6 [some (ZR 3), some (ZR 139), some (ZI a), some (ZI b), some (ZI end_), some (ZI x5_6), some (ZI x6_6)] [] 284 σ
      refine zr_iload (pc := 6) hV dX9_countPairs_6 rfl ?_
      refine zr_iconst (pc := 8) hV 1 dX9_countPairs_8 rfl ?_
      refine zr_iadd (pc := 9) hV dX9_countPairs_9 ?_
      refine zr_iload (pc := 10) hV dX9_countPairs_10 rfl ?_
      refine zr_icmp_ge (pc := 12) hV 70 dX9_countPairs_12 (by decide) (by omega) (by omega) (fun c1 => ?_) (fun c1 => ?_)
      · show V 70 [some (ZR 3), some (ZR 139), some (ZI a), some (ZI b), some (ZI end_), some (ZI x5_6), some (ZI x6_6)] [] 284 σ
        refine zr_iload (pc := 70) hV dX9_countPairs_70 rfl ?_
        exact zr_iret (pc := 72) hV dX9_countPairs_72 rfl rfl ⟨rfl, _, rfl, (by omega), ⟨by omega, (by have y : x5_6 + zk_P (fun x => zk_b (zk_c σ a b x)) end_ x6_6 = zk_P (fun x => zk_b (zk_c σ a b x)) end_ 0 := hi6_1; rw [zk_P_e (by omega)] at y; omega)⟩⟩
      · show V 15 [some (ZR 3), some (ZR 139), some (ZI a), some (ZI b), some (ZI end_), some (ZI x5_6), some (ZI x6_6)] [] 284 σ
        have b0 := q5 x6_6 (by omega) (by omega)
        have b1 := q5 (x6_6 + 1) (by omega) (by omega)
        refine zr_aload_n (pc := 15) hV dX9_countPairs_15 rfl rfl ?_
        refine zr_aload_n (pc := 16) hV dX9_countPairs_16 rfl rfl ?_
        refine zr_iload (pc := 17) hV dX9_countPairs_17 rfl ?_
        refine zr_iald (pc := 19) hV dX9_countPairs_19 (zc_k139 zc_s139) (zc_pos zc_s139 rfl) rfl (by omega) ?_
        have t2 := zc_ga139 hσ zc_s139 x6_6
        refine zr_callVp (pc := 20) hV [ZI (σ 139 x6_6)] (st := []) (c_X9_numberOf_2 (σ := σ) hσ (σ 139 x6_6) (by omega)) dX9_countPairs_20 mX9_52 (zc_k3 zc_s3) (zc_pos zc_s3 rfl) (by decide) (Nat.le_of_ble_eq_true rfl) (Nat.le_refl _) (fun r20 hr20 pr20 => ?_)
        have n20 : r20 = σ 11 (σ 139 x6_6) := pr20.2.1 ⟨by omega, by omega⟩
        refine zr_iload_n (pc := 23) hV dX9_countPairs_23 rfl rfl ?_
        refine zr_icmp_ne (pc := 24) hV 64 dX9_countPairs_24 (by decide) (by omega) (by omega) (fun c3 => ?_) (fun c3 => ?_)
        · show V 64 [some (ZR 3), some (ZR 139), some (ZI a), some (ZI b), some (ZI end_), some (ZI x5_6), some (ZI x6_6)] [] 284 σ
          refine zr_iinc (pc := 64) hV [some (ZR 3), some (ZR 139), some (ZI a), some (ZI b), some (ZI end_), some (ZI x5_6), some (ZI (x6_6 + 1))] (x6_6 + 1) dX9_countPairs_64 rfl rfl (by decide) rfl rfl ?_
          refine zr_goto (pc := 67) hV 6 dX9_countPairs_67 (by decide) ?_
          exact ih6 x5_6 (x6_6 + 1) (by omega) (by omega) (by omega) (by unfold zq_hid; have y : x5_6 + zk_P (fun x => zk_b (zk_c σ a b x)) end_ x6_6 = zk_P (fun x => zk_b (zk_c σ a b x)) end_ 0 := hi6_1; have z := zk_P_n (is := (fun x => zk_b (zk_c σ a b x))) (e := end_) (x := x6_6) (by omega) (zk_b_n (fun q => by first | exact absurd q.1 (by omega) | exact absurd q.2.1 (by omega) | exact absurd (al.mpr q.2.2) (by omega))); omega) (by omega)
        · show V 27 [some (ZR 3), some (ZR 139), some (ZI a), some (ZI b), some (ZI end_), some (ZI x5_6), some (ZI x6_6)] [] 284 σ
          refine zr_aload_n (pc := 27) hV dX9_countPairs_27 rfl rfl ?_
          refine zr_aload_n (pc := 28) hV dX9_countPairs_28 rfl rfl ?_
          refine zr_iload (pc := 29) hV dX9_countPairs_29 rfl ?_
          refine zr_iconst (pc := 31) hV 1 dX9_countPairs_31 rfl ?_
          refine zr_iadd (pc := 32) hV dX9_countPairs_32 ?_
          refine zr_iald (pc := 33) hV dX9_countPairs_33 (zc_k139 zc_s139) (zc_pos zc_s139 rfl) rfl (by omega) ?_
          have t4 := zc_ga139 hσ zc_s139 (x6_6 + 1)
          refine zr_callVp (pc := 34) hV [ZI (σ 139 (x6_6 + 1))] (st := []) (c_X9_numberOf_2 (σ := σ) hσ (σ 139 (x6_6 + 1)) (by omega)) dX9_countPairs_34 mX9_52 (zc_k3 zc_s3) (zc_pos zc_s3 rfl) (by decide) (Nat.le_of_ble_eq_true rfl) (Nat.le_refl _) (fun r34 hr34 pr34 => ?_)
          have n34 : r34 = σ 11 (σ 139 (x6_6 + 1)) := pr34.2.1 ⟨by omega, by omega⟩
          refine zr_iload_n (pc := 37) hV dX9_countPairs_37 rfl rfl ?_
          refine zr_icmp_ne (pc := 38) hV 64 dX9_countPairs_38 (by decide) (by omega) (by omega) (fun c5 => ?_) (fun c5 => ?_)
          · show V 64 [some (ZR 3), some (ZR 139), some (ZI a), some (ZI b), some (ZI end_), some (ZI x5_6), some (ZI x6_6)] [] 284 σ
            refine zr_iinc (pc := 64) hV [some (ZR 3), some (ZR 139), some (ZI a), some (ZI b), some (ZI end_), some (ZI x5_6), some (ZI (x6_6 + 1))] (x6_6 + 1) dX9_countPairs_64 rfl rfl (by decide) rfl rfl ?_
            refine zr_goto (pc := 67) hV 6 dX9_countPairs_67 (by decide) ?_
            exact ih6 x5_6 (x6_6 + 1) (by omega) (by omega) (by omega) (by unfold zq_hid; have y : x5_6 + zk_P (fun x => zk_b (zk_c σ a b x)) end_ x6_6 = zk_P (fun x => zk_b (zk_c σ a b x)) end_ 0 := hi6_1; have z := zk_P_n (is := (fun x => zk_b (zk_c σ a b x))) (e := end_) (x := x6_6) (by omega) (zk_b_n (fun q => by first | exact absurd q.1 (by omega) | exact absurd q.2.1 (by omega) | exact absurd (al.mpr q.2.2) (by omega))); omega) (by omega)
          · show V 41 [some (ZR 3), some (ZR 139), some (ZI a), some (ZI b), some (ZI end_), some (ZI x5_6), some (ZI x6_6)] [] 284 σ
            refine zr_aload_n (pc := 41) hV dX9_countPairs_41 rfl rfl ?_
            refine zr_aload_n (pc := 42) hV dX9_countPairs_42 rfl rfl ?_
            refine zr_iload (pc := 43) hV dX9_countPairs_43 rfl ?_
            refine zr_iald (pc := 45) hV dX9_countPairs_45 (zc_k139 zc_s139) (zc_pos zc_s139 rfl) rfl (by omega) ?_
            have t6 := zc_ga139 hσ zc_s139 x6_6
            refine zr_aload_n (pc := 46) hV dX9_countPairs_46 rfl rfl ?_
            refine zr_iload (pc := 47) hV dX9_countPairs_47 rfl ?_
            refine zr_iconst (pc := 49) hV 1 dX9_countPairs_49 rfl ?_
            refine zr_iadd (pc := 50) hV dX9_countPairs_50 ?_
            refine zr_iald (pc := 51) hV dX9_countPairs_51 (zc_k139 zc_s139) (zc_pos zc_s139 rfl) rfl (by omega) ?_
            have t7 := zc_ga139 hσ zc_s139 (x6_6 + 1)
            refine zr_callVp (pc := 52) hV [ZI (σ 139 x6_6), ZI (σ 139 (x6_6 + 1))] (st := []) (c_X9_tellAlike_2 (σ := σ) hσ (σ 139 x6_6) (σ 139 (x6_6 + 1)) (by omega) (by omega)) dX9_countPairs_52 mX9_97 (zc_k3 zc_s3) (zc_pos zc_s3 rfl) (by decide) (Nat.le_of_ble_eq_true rfl) (Nat.le_refl _) (fun r52 hr52 pr52 => ?_)
            have t8 := zc_g3_3 hσ zc_s3
            have al : zq_hid (r52 = 1 ↔ zk_ca σ (σ 10 a) (σ 10 b) (σ 139 x6_6) (σ 139 (x6_6 + 1))) := by have z := pr52.2; unfold zq_hid at z ⊢; rw [show σ 11 (σ 139 x6_6) = a by omega, show σ 11 (σ 139 (x6_6 + 1)) = b by omega] at z; exact z ⟨by omega, by omega⟩
            refine zr_if_eq (pc := 55) hV 64 dX9_countPairs_55 (by decide) (by omega) (fun c9 => ?_) (fun c9 => ?_)
            · show V 64 [some (ZR 3), some (ZR 139), some (ZI a), some (ZI b), some (ZI end_), some (ZI x5_6), some (ZI x6_6)] [] 284 σ
              refine zr_iinc (pc := 64) hV [some (ZR 3), some (ZR 139), some (ZI a), some (ZI b), some (ZI end_), some (ZI x5_6), some (ZI (x6_6 + 1))] (x6_6 + 1) dX9_countPairs_64 rfl rfl (by decide) rfl rfl ?_
              refine zr_goto (pc := 67) hV 6 dX9_countPairs_67 (by decide) ?_
              exact ih6 x5_6 (x6_6 + 1) (by omega) (by omega) (by omega) (by unfold zq_hid; have y : x5_6 + zk_P (fun x => zk_b (zk_c σ a b x)) end_ x6_6 = zk_P (fun x => zk_b (zk_c σ a b x)) end_ 0 := hi6_1; have z := zk_P_n (is := (fun x => zk_b (zk_c σ a b x))) (e := end_) (x := x6_6) (by omega) (zk_b_n (fun q => by first | exact absurd q.1 (by omega) | exact absurd q.2.1 (by omega) | exact absurd (al.mpr q.2.2) (by omega))); omega) (by omega)
            · show V 58 [some (ZR 3), some (ZR 139), some (ZI a), some (ZI b), some (ZI end_), some (ZI x5_6), some (ZI x6_6)] [] 284 σ
              refine zr_iinc (pc := 58) hV [some (ZR 3), some (ZR 139), some (ZI a), some (ZI b), some (ZI end_), some (ZI (x5_6 + 1)), some (ZI x6_6)] (x5_6 + 1) dX9_countPairs_58 rfl rfl (by decide) rfl rfl ?_
              refine zr_iinc (pc := 61) hV [some (ZR 3), some (ZR 139), some (ZI a), some (ZI b), some (ZI end_), some (ZI (x5_6 + 1)), some (ZI (x6_6 + 1))] (x6_6 + 1) dX9_countPairs_61 rfl rfl (by decide) rfl rfl ?_
              show V 64 [some (ZR 3), some (ZR 139), some (ZI a), some (ZI b), some (ZI end_), some (ZI (x5_6 + 1)), some (ZI (x6_6 + 1))] [] 284 σ
              refine zr_iinc (pc := 64) hV [some (ZR 3), some (ZR 139), some (ZI a), some (ZI b), some (ZI end_), some (ZI (x5_6 + 1)), some (ZI (x6_6 + 1 + 1))] (x6_6 + 1 + 1) dX9_countPairs_64 rfl rfl (by decide) rfl rfl ?_
              refine zr_goto (pc := 67) hV 6 dX9_countPairs_67 (by decide) ?_
              exact ih6 (x5_6 + 1) (x6_6 + 1 + 1) (by omega) (by omega) (by omega) (by unfold zq_hid; have y : x5_6 + zk_P (fun x => zk_b (zk_c σ a b x)) end_ x6_6 = zk_P (fun x => zk_b (zk_c σ a b x)) end_ 0 := hi6_1; have z := zk_P_y (is := (fun x => zk_b (zk_c σ a b x))) (e := end_) (x := x6_6) (by omega) (zk_b_y ⟨by omega, by omega, al.mp (by omega)⟩); rw [show x6_6 + 1 + 1 = x6_6 + 2 by omega]; omega) (by omega)
  exact L6 (66 - (0 : Int) + 1 : Int).toNat 0 0 (by omega) (by omega) (by omega) (Int.zero_add _) (by omega)
set_option maxHeartbeats 800000 in
theorem c_X11_pairs_2 {σ : zq_S} (hσ : zc_T σ) (a : Int) (b : Int) (end_ : Int) (q0 : zq_in a) (q1 : zq_in b) (q2 : zq_in end_) (q3 : zq_hid (∀ i, 0 ≤ i → i < 64 → 0 ≤ σ 139 i ∧ σ 139 i ≤ 4095)) (Uσ : zc_U σ) : zq_C zc_w yX11_pairs cX11_pairs 4 (some .int) 4 93 284 284 [ZR 0, ZI a, ZI b, ZI end_] σ (zq_pp σ (fun r => zq_hid ((¬ (0 ≤ a ∧ a < σ 3 3 ∧ 0 ≤ b ∧ b < σ 3 3 ∧ 0 ≤ end_ ∧ end_ ≤ 64) → r = -1) ∧ (0 ≤ a ∧ a < σ 3 3 ∧ 0 ≤ b ∧ b < σ 3 3 ∧ 0 ≤ end_ ∧ end_ ≤ 64 → r = zk_P (fun x => zk_b (zk_c σ a b x)) end_ 0)))) := by
  refine zq_C_of (by decide) (Nat.le_refl _) (Nat.le_of_ble_eq_true rfl) [some (ZR 0), some (ZI a), some (ZI b), some (ZI end_)] rfl (fun V hV => ?_)
  show V 0 [some (ZR 0), some (ZI a), some (ZI b), some (ZI end_)] [] 284 σ
  refine zr_aload_n (pc := 0) hV dX11_pairs_0 rfl rfl ?_
  refine zr_getR (pc := 1) hV 1 3 dX11_pairs_1 fX11_19 rfl rfl (zc_k0 zc_s0) (zc_pos zc_s0 rfl) (zc_g0_1 hσ zc_s0) (by decide) ?_
  refine zr_iload_n (pc := 4) hV dX11_pairs_4 rfl rfl ?_
  refine zr_callVr (pc := 5) hV [ZI a] (st := []) (c_X9_numbered_2 (σ := σ) hσ a (by omega)) dX11_pairs_5 mX11_117 (zc_k3 zc_s3) (zc_pos zc_s3 rfl) (by decide) (Nat.le_of_ble_eq_true rfl) (Nat.le_refl _) (fun r5 pr5 => ?_)
  by_cases c1 : r5 < 0
  · rw [zq_nr_n c1]
    refine zr_ifnullN (pc := 8) hV 32 dX11_pairs_8 (by decide) ?_
    show V 32 [some (ZR 0), some (ZI a), some (ZI b), some (ZI end_)] [] 284 σ
    refine zr_iconst (pc := 32) hV (-1) dX11_pairs_32 rfl ?_
    exact zr_iret (pc := 33) hV dX11_pairs_33 rfl rfl ⟨rfl, _, rfl, ⟨by decide, by decide⟩, ⟨fun _ => rfl, fun h => (by exfalso; first | exact pr5.2.2 (by omega) (by omega) | exact pr16.2.2 (by omega) (by omega) | omega)⟩⟩
  · rw [zq_nr_p c1]
    have kr5 : zc_kd r5 = 4 := pr5.1 (by omega)
    have por5 := zc_pos kr5 rfl
    refine zr_ifnull (pc := 8) hV dX11_pairs_8 ?_
    show V 11 [some (ZR 0), some (ZI a), some (ZI b), some (ZI end_)] [] 284 σ
    refine zr_aload_n (pc := 11) hV dX11_pairs_11 rfl rfl ?_
    refine zr_getR (pc := 12) hV 1 3 dX11_pairs_12 fX11_19 rfl rfl (zc_k0 zc_s0) (zc_pos zc_s0 rfl) (zc_g0_1 hσ zc_s0) (by decide) ?_
    refine zr_iload_n (pc := 15) hV dX11_pairs_15 rfl rfl ?_
    refine zr_callVr (pc := 16) hV [ZI b] (st := []) (c_X9_numbered_2 (σ := σ) hσ b (by omega)) dX11_pairs_16 mX11_117 (zc_k3 zc_s3) (zc_pos zc_s3 rfl) (by decide) (Nat.le_of_ble_eq_true rfl) (Nat.le_refl _) (fun r16 pr16 => ?_)
    by_cases c2 : r16 < 0
    · rw [zq_nr_n c2]
      refine zr_ifnullN (pc := 19) hV 32 dX11_pairs_19 (by decide) ?_
      show V 32 [some (ZR 0), some (ZI a), some (ZI b), some (ZI end_)] [] 284 σ
      refine zr_iconst (pc := 32) hV (-1) dX11_pairs_32 rfl ?_
      exact zr_iret (pc := 33) hV dX11_pairs_33 rfl rfl ⟨rfl, _, rfl, ⟨by decide, by decide⟩, ⟨fun _ => rfl, fun h => (by exfalso; first | exact pr5.2.2 (by omega) (by omega) | exact pr16.2.2 (by omega) (by omega) | omega)⟩⟩
    · rw [zq_nr_p c2]
      have kr16 : zc_kd r16 = 4 := pr16.1 (by omega)
      have por16 := zc_pos kr16 rfl
      refine zr_ifnull (pc := 19) hV dX11_pairs_19 ?_
      show V 22 [some (ZR 0), some (ZI a), some (ZI b), some (ZI end_)] [] 284 σ
      refine zr_iload_n (pc := 22) hV dX11_pairs_22 rfl rfl ?_
      refine zr_iconst (pc := 23) hV 0 dX11_pairs_23 rfl ?_
      refine zr_bipush (pc := 24) hV 64 dX11_pairs_24 (by decide) ?_
      refine zr_callSp (pc := 26) hV [ZI end_, ZI 0, ZI 64] (st := []) (c_X11_within (σ := σ) end_ 0 64 (by omega) (by omega) (by omega)) dX11_pairs_26 mX11_89 (by decide) (Nat.le_of_ble_eq_true rfl) (Nat.le_refl _) (fun r26 hr26 pr26 => ?_)
      refine zr_if_ne (pc := 29) hV 34 dX11_pairs_29 (by decide) (by omega) (fun c3 => ?_) (fun c3 => ?_)
      · show V 34 [some (ZR 0), some (ZI a), some (ZI b), some (ZI end_)] [] 284 σ
        refine zr_aload_n (pc := 34) hV dX11_pairs_34 rfl rfl ?_
        refine zr_getR (pc := 35) hV 1 3 dX11_pairs_35 fX11_19 rfl rfl (zc_k0 zc_s0) (zc_pos zc_s0 rfl) (zc_g0_1 hσ zc_s0) (by decide) ?_
        refine zr_aload_n (pc := 38) hV dX11_pairs_38 rfl rfl ?_
        refine zr_getR (pc := 39) hV 4 139 dX11_pairs_39 fX11_39 rfl rfl (zc_k0 zc_s0) (zc_pos zc_s0 rfl) (zc_g0_4 hσ zc_s0) (by decide) ?_
        refine zr_iload_n (pc := 42) hV dX11_pairs_42 rfl rfl ?_
        refine zr_iload_n (pc := 43) hV dX11_pairs_43 rfl rfl ?_
        refine zr_iload_n (pc := 44) hV dX11_pairs_44 rfl rfl ?_
        have t4 := zc_g3_3 hσ zc_s3
        have t5 := zc_g3_3 hσ zc_s3
        refine zr_callVp (pc := 45) hV [ZR 139, ZI a, ZI b, ZI end_] (st := []) (c_X9_countPairs_2 (σ := σ) hσ a b end_ (by omega) (by omega) (by omega) (by have z5 := pr5.2.1 (by omega); omega) (by have z16 := pr16.2.1 (by omega); omega) q3) dX11_pairs_45 mX11_256 (zc_k3 zc_s3) (zc_pos zc_s3 rfl) (by decide) (Nat.le_of_ble_eq_true rfl) (Nat.le_refl _) (fun r45 hr45 pr45 => ?_)
        exact zr_iret (pc := 48) hV dX11_pairs_48 rfl rfl ⟨rfl, _, rfl, (by omega), ⟨fun h => absurd (by have z5 := pr5.2.1 (by omega); have z16 := pr16.2.1 (by omega); omega) h, fun _ => pr45.2⟩⟩
      · show V 32 [some (ZR 0), some (ZI a), some (ZI b), some (ZI end_)] [] 284 σ
        refine zr_iconst (pc := 32) hV (-1) dX11_pairs_32 rfl ?_
        exact zr_iret (pc := 33) hV dX11_pairs_33 rfl rfl ⟨rfl, _, rfl, ⟨by decide, by decide⟩, ⟨fun _ => rfl, fun h => (by exfalso; first | exact pr5.2.2 (by omega) (by omega) | exact pr16.2.2 (by omega) (by omega) | omega)⟩⟩
