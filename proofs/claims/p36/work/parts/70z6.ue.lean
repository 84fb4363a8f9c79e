set_option maxHeartbeats 800000 in
theorem c_X1_ticksOf_2 {σ : zq_S} (hσ : zc_T σ) (number : Int) (q0 : zq_in number) : zq_C zc_w yX1_ticksOf cX1_ticksOf 3 (some .int) 1 21 284 284 [ZR 255, ZI number] σ (zq_pp σ (fun r => (0 ≤ number ∧ number < σ 3 3 → r = σ (σ 10 number) 11) ∧ (¬ (0 ≤ number ∧ number < σ 3 3) → r = 1000000))) := by
  refine zq_C_of (by decide) (Nat.le_refl _) (Nat.le_of_ble_eq_true rfl) [some (ZR 255), some (ZI number), none] rfl (fun V hV => ?_)
  show V 0 [some (ZR 255), some (ZI number), none] [] 284 σ
  refine zr_aload_n (pc := 0) hV dX1_ticksOf_0 rfl rfl ?_
  refine zr_getR (pc := 1) hV 0 3 dX1_ticksOf_1 fX1_34 rfl rfl (zc_k255 zc_s255) (zc_pos zc_s255 rfl) (zc_g255_0 hσ zc_s255) (by decide) ?_
  refine zr_iload_n (pc := 4) hV dX1_ticksOf_4 rfl rfl ?_
  refine zr_callVr (pc := 5) hV [ZI number] (st := []) (c_X9_numbered_2 (σ := σ) hσ number (by omega)) dX1_ticksOf_5 mX1_87 (zc_k3 zc_s3) (zc_pos zc_s3 rfl) (by decide) (Nat.le_of_ble_eq_true rfl) (Nat.le_refl _) (fun r5 pr5 => ?_)
  refine zr_astore_nQ (pc := 8) hV [some (ZR 255), some (ZI number), some (zq_nr r5)] dX1_ticksOf_8 rfl (by decide) rfl rfl ?_
  refine zr_aload_nQ (pc := 9) hV dX1_ticksOf_9 rfl rfl ?_
  by_cases c1 : r5 < 0
  · rw [zq_nr_n c1]
    refine zr_ifnonnullN (pc := 10) hV dX1_ticksOf_10 ?_
    show V 13 [some (ZR 255), some (ZI number), some (ZN)] [] 284 σ
    refine zr_ldc (pc := 13) (v := 1000000) hV 1000000 dX1_ticksOf_13 kX1_86 (by decide) ?_
    refine zr_goto (pc := 15) hV 22 dX1_ticksOf_15 (by decide) ?_
    show V 22 [some (ZR 255), some (ZI number), some (ZN)] [ZI 1000000] 284 σ
    exact zr_iret (pc := 22) hV dX1_ticksOf_22 rfl rfl ⟨rfl, _, rfl, ⟨by decide, by decide⟩, ⟨fun h => absurd h (pr5.2.2 (by omega)), fun h => rfl⟩⟩
  · rw [zq_nr_p c1]
    have kr5 : zc_kd r5 = 4 := pr5.1 (by omega)
    have por5 := zc_pos kr5 rfl
    refine zr_ifnonnull (pc := 10) hV 18 dX1_ticksOf_10 (by decide) ?_
    show V 18 [some (ZR 255), some (ZI number), some (ZR r5)] [] 284 σ
    refine zr_aload_n (pc := 18) hV dX1_ticksOf_18 rfl rfl ?_
    refine zr_getI (pc := 19) hV 11 dX1_ticksOf_19 fX1_91 rfl rfl (zc_k4 kr5) (zc_pos kr5 rfl) ?_
    have t2 := zc_g4_11 hσ kr5
    show V 22 [some (ZR 255), some (ZI number), some (ZR r5)] [ZI (σ r5 11)] 284 σ
    exact zr_iret (pc := 22) hV dX1_ticksOf_22 rfl rfl ⟨rfl, _, rfl, (by omega), ⟨fun h => by rw [← (pr5.2.1 (by omega)).2.2], fun h => absurd ⟨(pr5.2.1 (by omega)).1, (pr5.2.1 (by omega)).2.1⟩ h⟩⟩
set_option maxHeartbeats 800000 in
theorem c_X1_hasRoomFor_2 {σ : zq_S} (hσ : zc_T σ) (order : Int) (korder : zc_kd order = 4) (number : Int) (q0 : zq_in number) (q1 : zt_bc (σ (order + 1) 3) ≤ 12) : zq_C zc_w yX1_hasRoomFor cX1_hasRoomFor 2 (some .boolean) 2 41 284 284 [ZR order, ZI number] σ (zq_pp σ (fun r => (0 ≤ r ∧ r ≤ 1) ∧ (r = 1 ↔ number < zx_p2 (zt_bc (σ (order + 1) 3))))) := by
  refine zq_C_of (by decide) (Nat.le_refl _) (Nat.le_of_ble_eq_true rfl) [some (ZR order), some (ZI number)] rfl (fun V hV => ?_)
  have poorder := zc_pos korder rfl
  show V 0 [some (ZR order), some (ZI number)] [] 284 σ
  refine zr_iload_n (pc := 0) hV dX1_hasRoomFor_0 rfl rfl ?_
  refine zr_iconst (pc := 1) hV 1 dX1_hasRoomFor_1 rfl ?_
  refine zr_aload_n (pc := 2) hV dX1_hasRoomFor_2 rfl rfl ?_
  refine zr_iconst (pc := 3) hV 3 dX1_hasRoomFor_3 rfl ?_
  refine zr_callVp (pc := 4) hV [ZI 3] (st := [ZI 1, ZI number]) (c_X3_fieldBits_2 (σ := σ) hσ order korder 3 (by omega)) dX1_hasRoomFor_4 mX1_96 (zc_k4 korder) (zc_pos korder rfl) (by decide) (Nat.le_of_ble_eq_true rfl) (Nat.le_refl _) (fun r4 hr4 pr4 => ?_)
  have z4 : r4 = zt_bc (σ (order + 1) 3) := by omega
  have zsh : zq_shl 1 r4 = zx_p2 r4 := (zx_shl_one 12 4096 (by decide) (by decide) (by omega)).1
  have zp4 : zx_p2 r4 = zx_p2 (zt_bc (σ (order + 1) 3)) := by rw [z4]
  refine zr_ishl (pc := 7) hV dX1_hasRoomFor_7 ?_
  have t1 := zx_shl_one (y := r4) 12 4096 (by decide) (by decide) (by omega)
  refine zr_icmp_ge (pc := 8) hV 15 dX1_hasRoomFor_8 (by decide) (by omega) (by omega) (fun c2 => ?_) (fun c2 => ?_)
  · show V 15 [some (ZR order), some (ZI number)] [] 284 σ
    refine zr_iconst (pc := 15) hV 0 dX1_hasRoomFor_15 rfl ?_
    show V 16 [some (ZR order), some (ZI number)] [ZI 0] 284 σ
    exact zr_zret (pc := 16) hV dX1_hasRoomFor_16 rfl rfl (by omega) ⟨rfl, _, rfl, ⟨by decide, by decide⟩, ⟨by omega, ⟨fun h => absurd h (by omega), fun h => absurd h (by omega)⟩⟩⟩
  · show V 11 [some (ZR order), some (ZI number)] [] 284 σ
    refine zr_iconst (pc := 11) hV 1 dX1_hasRoomFor_11 rfl ?_
    refine zr_goto (pc := 12) hV 16 dX1_hasRoomFor_12 (by decide) ?_
    show V 16 [some (ZR order), some (ZI number)] [ZI 1] 284 σ
    exact zr_zret (pc := 16) hV dX1_hasRoomFor_16 rfl rfl (by omega) ⟨rfl, _, rfl, ⟨by decide, by decide⟩, ⟨by omega, ⟨fun _ => by omega, fun _ => rfl⟩⟩⟩
set_option maxHeartbeats 800000 in
theorem c_X1_leastMove_2 {σ : zq_S} (hσ : zc_T σ)  (q0 : ∀ o, 0 ≤ o → o < σ 3 3 → σ (σ 10 o) 11 ≤ 1000) : zq_C zc_w yX1_leastMove cX1_leastMove 3 (some .int) 2 43 284 284 [ZR 255] σ (zq_pp σ (fun r => ((-1) ≤ r ∧ r ≤ 19) ∧ r < σ 3 3 ∧ zq_hid (zp_LM σ r (σ 3 3)))) := by
  refine zq_C_of (by decide) (Nat.le_refl _) (Nat.le_of_ble_eq_true rfl) [some (ZR 255), none, none] rfl (fun V hV => ?_)
  have z33 := zc_g3_3 hσ zc_s3
  have tb := q0
  show V 0 [some (ZR 255), none, none] [] 284 σ
  refine zr_iconst (pc := 0) hV (-1) dX1_leastMove_0 rfl ?_
  refine zr_istore_n (pc := 1) hV [some (ZR 255), some (ZI (-1)), none] dX1_leastMove_1 rfl (by decide) rfl rfl ?_
  refine zr_iconst (pc := 2) hV 0 dX1_leastMove_2 rfl ?_
  refine zr_istore_n (pc := 3) hV [some (ZR 255), some (ZI (-1)), some (ZI 0)] dX1_leastMove_3 rfl (by decide) rfl rfl ?_
  have L4 : ∀ (fuel : Nat) (x1_4 : Int) (x2_4 : Int), ((-1) ≤ x1_4 ∧ x1_4 ≤ 19) → (0 ≤ x2_4 ∧ x2_4 ≤ 20) → (zp_LM σ x1_4 x2_4) → (x1_4 < x2_4) → (x2_4 ≤ σ 3 3) → 20 - x2_4 < (fuel : Int) → V 4 [some (ZR 255), some (ZI x1_4), some (ZI x2_4)] [] 284 σ := by
    intro fuel
    induction fuel with
    | zero =>
      intro x1_4 x2_4 hx1_4 hx2_4 hi4_0 hi4_1 hi4_2 hm4
      exfalso; omega
    | succ fuel ih =>
      intro x1_4 x2_4 hx1_4 hx2_4 hi4_0 hi4_1 hi4_2 hm4
      have ih4 := ih
      show V 4 [some (ZR 255), some (ZI x1_4), some (ZI x2_4)] [] 284 σ
      refine zr_iload_n (pc := 4) hV dX1_leastMove_4 rfl rfl ?_
      refine zr_aload_n (pc := 5) hV dX1_leastMove_5 rfl rfl ?_
      refine zr_getR (pc := 6) hV 0 3 dX1_leastMove_6 fX1_34 rfl rfl (zc_k255 zc_s255) (zc_pos zc_s255 rfl) (zc_g255_0 hσ zc_s255) (by decide) ?_
      refine zr_getI (pc := 9) hV 3 dX1_leastMove_9 fX1_99 rfl rfl (zc_k3 zc_s3) (zc_pos zc_s3 rfl) ?_
      have t1 := zc_g3_3 hσ zc_s3
      refine zr_icmp_ge (pc := 12) hV 59 dX1_leastMove_12 (by decide) (by omega) (by omega) (fun c2 => ?_) (fun c2 => ?_)
      · show V 59 [some (ZR 255), some (ZI x1_4), some (ZI x2_4)] [] 284 σ
        refine zr_iload_n (pc := 59) hV dX1_leastMove_59 rfl rfl ?_
        exact zr_iret (pc := 60) hV dX1_leastMove_60 rfl rfl ⟨rfl, _, rfl, (by omega), ⟨by omega, ⟨by omega, by rw [show σ 3 3 = x2_4 by omega]; exact hi4_0⟩⟩⟩
      · show V 15 [some (ZR 255), some (ZI x1_4), some (ZI x2_4)] [] 284 σ
        refine zr_aload_n (pc := 15) hV dX1_leastMove_15 rfl rfl ?_
        refine zr_getR (pc := 16) hV 0 3 dX1_leastMove_16 fX1_34 rfl rfl (zc_k255 zc_s255) (zc_pos zc_s255 rfl) (zc_g255_0 hσ zc_s255) (by decide) ?_
        refine zr_getR (pc := 19) hV 6 10 dX1_leastMove_19 fX1_101 rfl rfl (zc_k3 zc_s3) (zc_pos zc_s3 rfl) (zc_g3_6 hσ zc_s3) (by decide) ?_
        refine zr_iload_n (pc := 22) hV dX1_leastMove_22 rfl rfl ?_
        have ga23 : zc_kd (σ 10 x2_4) = 4 := zc_ga10 hσ zc_s10 x2_4 (by omega) (by omega)
        refine zr_aald (pc := 23) hV dX1_leastMove_23 (zc_k10 zc_s10) (Or.inl rfl) (zc_pos zc_s10 rfl) rfl (by omega) (zc_pos ga23 rfl).1 ?_
        obtain ⟨o23, eo23⟩ : ∃ o, σ 10 x2_4 = o := ⟨_, rfl⟩
        rw [eo23] at ga23 ⊢
        have ko23 := ga23
        have po23 := zc_pos ko23 rfl
        show V 24 [some (ZR 255), some (ZI x1_4), some (ZI x2_4)] [ZR o23] 284 σ
        refine zr_getI (pc := 24) hV 14 dX1_leastMove_24 fX1_105 rfl rfl (zc_k4 ko23) (zc_pos ko23 rfl) ?_
        have t3 := zc_g4_14 hσ ko23
        refine zr_iconst (pc := 27) hV 2 dX1_leastMove_27 rfl ?_
        refine zr_icmp_ne (pc := 28) hV 53 dX1_leastMove_28 (by decide) (by omega) ⟨by decide, by decide⟩ (fun c4 => ?_) (fun c4 => ?_)
        · show V 53 [some (ZR 255), some (ZI x1_4), some (ZI x2_4)] [] 284 σ
          refine zr_iinc (pc := 53) hV [some (ZR 255), some (ZI x1_4), some (ZI (x2_4 + 1))] (x2_4 + 1) dX1_leastMove_53 rfl rfl (by decide) rfl rfl ?_
          refine zr_goto (pc := 56) hV 4 dX1_leastMove_56 (by decide) ?_
          have t5 := zc_g3_3 hσ zc_s3
          exact ih4 x1_4 (x2_4 + 1) (by omega) (by omega) (zp_LM_n (by omega) (by omega) (by omega) (fun q => by have q1 := q.1; have q2 := q.2; rw [eo23] at q1; first | omega | (rw [eo39] at q2; by_cases c : x1_4 < 0; (have z := pr45.2 (by omega); have z2 := tb x2_4 (by omega) (by omega); rw [eo39] at z2; omega); (have z := pr45.1 (by omega); omega))) hi4_0) (by omega) (by omega) (by omega)
        · show V 31 [some (ZR 255), some (ZI x1_4), some (ZI x2_4)] [] 284 σ
          refine zr_aload_n (pc := 31) hV dX1_leastMove_31 rfl rfl ?_
          refine zr_getR (pc := 32) hV 0 3 dX1_leastMove_32 fX1_34 rfl rfl (zc_k255 zc_s255) (zc_pos zc_s255 rfl) (zc_g255_0 hσ zc_s255) (by decide) ?_
          refine zr_getR (pc := 35) hV 6 10 dX1_leastMove_35 fX1_101 rfl rfl (zc_k3 zc_s3) (zc_pos zc_s3 rfl) (zc_g3_6 hσ zc_s3) (by decide) ?_
          refine zr_iload_n (pc := 38) hV dX1_leastMove_38 rfl rfl ?_
          have ga39 : zc_kd (σ 10 x2_4) = 4 := zc_ga10 hσ zc_s10 x2_4 (by omega) (by omega)
          refine zr_aald (pc := 39) hV dX1_leastMove_39 (zc_k10 zc_s10) (Or.inl rfl) (zc_pos zc_s10 rfl) rfl (by omega) (zc_pos ga39 rfl).1 ?_
          obtain ⟨o39, eo39⟩ : ∃ o, σ 10 x2_4 = o := ⟨_, rfl⟩
          rw [eo39] at ga39 ⊢
          have ko39 := ga39
          have po39 := zc_pos ko39 rfl
          show V 40 [some (ZR 255), some (ZI x1_4), some (ZI x2_4)] [ZR o39] 284 σ
          refine zr_getI (pc := 40) hV 11 dX1_leastMove_40 fX1_91 rfl rfl (zc_k4 ko39) (zc_pos ko39 rfl) ?_
          have t6 := zc_g4_11 hσ ko39
          refine zr_aload_n (pc := 43) hV dX1_leastMove_43 rfl rfl ?_
          refine zr_iload_n (pc := 44) hV dX1_leastMove_44 rfl rfl ?_
          refine zr_callVp (pc := 45) hV [ZI x1_4] (st := [ZI (σ o39 11)]) (c_X1_ticksOf_2 (σ := σ) hσ x1_4 (by omega)) dX1_leastMove_45 mX1_59 (zc_k255 zc_s255) (zc_pos zc_s255 rfl) (by decide) (Nat.le_of_ble_eq_true rfl) (Nat.le_refl _) (fun r45 hr45 pr45 => ?_)
          have t7 := zc_g3_3 hσ zc_s3
          refine zr_icmp_ge (pc := 48) hV 53 dX1_leastMove_48 (by decide) (by omega) (by omega) (fun c8 => ?_) (fun c8 => ?_)
          · show V 53 [some (ZR 255), some (ZI x1_4), some (ZI x2_4)] [] 284 σ
            refine zr_iinc (pc := 53) hV [some (ZR 255), some (ZI x1_4), some (ZI (x2_4 + 1))] (x2_4 + 1) dX1_leastMove_53 rfl rfl (by decide) rfl rfl ?_
            refine zr_goto (pc := 56) hV 4 dX1_leastMove_56 (by decide) ?_
            have t9 := zc_g3_3 hσ zc_s3
            exact ih4 x1_4 (x2_4 + 1) (by omega) (by omega) (zp_LM_n (by omega) (by omega) (by omega) (fun q => by have q1 := q.1; have q2 := q.2; rw [eo23] at q1; first | omega | (rw [eo39] at q2; by_cases c : x1_4 < 0; (have z := pr45.2 (by omega); have z2 := tb x2_4 (by omega) (by omega); rw [eo39] at z2; omega); (have z := pr45.1 (by omega); omega))) hi4_0) (by omega) (by omega) (by omega)
          · show V 51 [some (ZR 255), some (ZI x1_4), some (ZI x2_4)] [] 284 σ
            refine zr_iload_n (pc := 51) hV dX1_leastMove_51 rfl rfl ?_
            refine zr_istore_n (pc := 52) hV [some (ZR 255), some (ZI x2_4), some (ZI x2_4)] dX1_leastMove_52 rfl (by decide) rfl rfl ?_
            show V 53 [some (ZR 255), some (ZI x2_4), some (ZI x2_4)] [] 284 σ
            refine zr_iinc (pc := 53) hV [some (ZR 255), some (ZI x2_4), some (ZI (x2_4 + 1))] (x2_4 + 1) dX1_leastMove_53 rfl rfl (by decide) rfl rfl ?_
            refine zr_goto (pc := 56) hV 4 dX1_leastMove_56 (by decide) ?_
            have t10 := zc_g3_3 hσ zc_s3
            exact ih4 x2_4 (x2_4 + 1) (by omega) (by omega) (zp_LM_y (by omega) (by omega) (by omega) (by rw [eo23]; omega) (fun h => by rw [eo39]; have q := pr45.1 (by omega); omega) hi4_0) (by omega) (by omega) (by omega)
  have t11 := zc_g3_3 hσ zc_s3
  exact L4 (20 - (0 : Int) + 1 : Int).toNat (-1) 0 (by omega) (by omega) (zp_LM_0 σ) (by omega) (by omega) (by omega)
set_option maxHeartbeats 800000 in
theorem c_X1_leastLoad_2 {σ : zq_S} (hσ : zc_T σ) (number : Int) (q0 : zq_in number) (q1 : ∀ o, 0 ≤ o → o < σ 3 3 → σ (σ 10 o) 11 ≤ 1000 ∧ zt_bc (σ (σ 10 o + 1) 3) ≤ 12) : zq_C zc_w yX1_leastLoad cX1_leastLoad 5 (some .int) 3 62 284 284 [ZR 255, ZI number] σ (zq_pp σ (fun r => ((-1) ≤ r ∧ r ≤ 19) ∧ r < σ 3 3 ∧ zq_hid (zp_LL σ number r (σ 3 3)))) := by
  refine zq_C_of (by decide) (Nat.le_refl _) (Nat.le_of_ble_eq_true rfl) [some (ZR 255), some (ZI number), none, none, none] rfl (fun V hV => ?_)
  have z33 := zc_g3_3 hσ zc_s3
  have tb := q1
  show V 0 [some (ZR 255), some (ZI number), none, none, none] [] 284 σ
  refine zr_iconst (pc := 0) hV (-1) dX1_leastLoad_0 rfl ?_
  refine zr_istore_n (pc := 1) hV [some (ZR 255), some (ZI number), some (ZI (-1)), none, none] dX1_leastLoad_1 rfl (by decide) rfl rfl ?_
  refine zr_iconst (pc := 2) hV 0 dX1_leastLoad_2 rfl ?_
  refine zr_istore_n (pc := 3) hV [some (ZR 255), some (ZI number), some (ZI (-1)), some (ZI 0), none] dX1_leastLoad_3 rfl (by decide) rfl rfl ?_
  have L4 : ∀ (fuel : Nat) (x2_4 : Int) (x3_4 : Int), ((-1) ≤ x2_4 ∧ x2_4 ≤ 19) → (0 ≤ x3_4 ∧ x3_4 ≤ 20) → (zp_LL σ number x2_4 x3_4) → (x2_4 < x3_4) → (x3_4 ≤ σ 3 3) → 20 - x3_4 < (fuel : Int) → V 4 [some (ZR 255), some (ZI number), some (ZI x2_4), some (ZI x3_4), none] [] 284 σ := by
    intro fuel
    induction fuel with
    | zero =>
      intro x2_4 x3_4 hx2_4 hx3_4 hi4_0 hi4_1 hi4_2 hm4
      exfalso; omega
    | succ fuel ih =>
      intro x2_4 x3_4 hx2_4 hx3_4 hi4_0 hi4_1 hi4_2 hm4
      have ih4 := ih
      show V 4 [some (ZR 255), some (ZI number), some (ZI x2_4), some (ZI x3_4), none] [] 284 σ
      refine zr_iload_n (pc := 4) hV dX1_leastLoad_4 rfl rfl ?_
      refine zr_aload_n (pc := 5) hV dX1_leastLoad_5 rfl rfl ?_
      refine zr_getR (pc := 6) hV 0 3 dX1_leastLoad_6 fX1_34 rfl rfl (zc_k255 zc_s255) (zc_pos zc_s255 rfl) (zc_g255_0 hσ zc_s255) (by decide) ?_
      refine zr_getI (pc := 9) hV 3 dX1_leastLoad_9 fX1_99 rfl rfl (zc_k3 zc_s3) (zc_pos zc_s3 rfl) ?_
      have t1 := zc_g3_3 hσ zc_s3
      refine zr_icmp_ge (pc := 12) hV 65 dX1_leastLoad_12 (by decide) (by omega) (by omega) (fun c2 => ?_) (fun c2 => ?_)
      · show V 65 [some (ZR 255), some (ZI number), some (ZI x2_4), some (ZI x3_4), none] [] 284 σ
        refine zr_iload_n (pc := 65) hV dX1_leastLoad_65 rfl rfl ?_
        exact zr_iret (pc := 66) hV dX1_leastLoad_66 rfl rfl ⟨rfl, _, rfl, (by omega), ⟨by omega, ⟨by omega, by rw [show σ 3 3 = x3_4 by omega]; exact hi4_0⟩⟩⟩
      · show V 15 [some (ZR 255), some (ZI number), some (ZI x2_4), some (ZI x3_4), none] [] 284 σ
        refine zr_aload_n (pc := 15) hV dX1_leastLoad_15 rfl rfl ?_
        refine zr_getR (pc := 16) hV 0 3 dX1_leastLoad_16 fX1_34 rfl rfl (zc_k255 zc_s255) (zc_pos zc_s255 rfl) (zc_g255_0 hσ zc_s255) (by decide) ?_
        refine zr_getR (pc := 19) hV 6 10 dX1_leastLoad_19 fX1_101 rfl rfl (zc_k3 zc_s3) (zc_pos zc_s3 rfl) (zc_g3_6 hσ zc_s3) (by decide) ?_
        refine zr_iload_n (pc := 22) hV dX1_leastLoad_22 rfl rfl ?_
        have ga23 : zc_kd (σ 10 x3_4) = 4 := zc_ga10 hσ zc_s10 x3_4 (by omega) (by omega)
        refine zr_aald (pc := 23) hV dX1_leastLoad_23 (zc_k10 zc_s10) (Or.inl rfl) (zc_pos zc_s10 rfl) rfl (by omega) (zc_pos ga23 rfl).1 ?_
        obtain ⟨o23, eo23⟩ : ∃ o, σ 10 x3_4 = o := ⟨_, rfl⟩
        rw [eo23] at ga23 ⊢
        have ko23 := ga23
        have po23 := zc_pos ko23 rfl
        show V 24 [some (ZR 255), some (ZI number), some (ZI x2_4), some (ZI x3_4), none] [ZR o23] 284 σ
        refine zr_astore (pc := 24) hV [some (ZR 255), some (ZI number), some (ZI x2_4), some (ZI x3_4), some (ZR o23)] dX1_leastLoad_24 (by decide) rfl rfl ?_
        have b23 : zt_bc (σ (o23 + 1) 3) ≤ 12 := by have z := (tb x3_4 (by omega) (by omega)).2; rw [eo23] at z; exact z
        refine zr_aload (pc := 26) hV dX1_leastLoad_26 rfl ?_
        refine zr_getI (pc := 28) hV 14 dX1_leastLoad_28 fX1_105 rfl rfl (zc_k4 ko23) (zc_pos ko23 rfl) ?_
        have t3 := zc_g4_14 hσ ko23
        refine zr_iconst (pc := 31) hV 1 dX1_leastLoad_31 rfl ?_
        refine zr_icmp_ne (pc := 32) hV 59 dX1_leastLoad_32 (by decide) (by omega) ⟨by decide, by decide⟩ (fun c4 => ?_) (fun c4 => ?_)
        · show V 59 [some (ZR 255), some (ZI number), some (ZI x2_4), some (ZI x3_4), some (ZR o23)] [] 284 σ
          refine zr_iinc (pc := 59) hV [some (ZR 255), some (ZI number), some (ZI x2_4), some (ZI (x3_4 + 1)), some (ZR o23)] (x3_4 + 1) dX1_leastLoad_59 rfl rfl (by decide) rfl rfl ?_
          refine zr_goto (pc := 62) hV 4 dX1_leastLoad_62 (by decide) ?_
          have t5 := zc_g3_3 hσ zc_s3
          refine zr_sub (pc := 4) hV [some (ZR 255), some (ZI number), some (ZI x2_4), some (ZI (x3_4 + 1)), none] (⟨rfl, rfl, rfl, rfl, trivial⟩) ?_
          exact ih4 x2_4 (x3_4 + 1) (by omega) (by omega) (zp_LL_n (by omega) (by omega) (by omega) (by rw [eo23]; exact b23) (fun q => by have q1 := q.1; have q2 := q.2.1; have q3 := q.2.2; rw [eo23] at q1 q2 q3; first | omega | (have z := pr38.2.mpr q2; omega) | (by_cases c : x2_4 < 0; (have z := pr51.2 (by omega); have z2 := (tb x3_4 (by omega) (by omega)).1; rw [eo23] at z2; omega); (have z := pr51.1 (by omega); omega))) hi4_0) (by omega) (by omega) (by omega)
        · show V 35 [some (ZR 255), some (ZI number), some (ZI x2_4), some (ZI x3_4), some (ZR o23)] [] 284 σ
          refine zr_aload (pc := 35) hV dX1_leastLoad_35 rfl ?_
          refine zr_iload_n (pc := 37) hV dX1_leastLoad_37 rfl rfl ?_
          refine zr_callSp (pc := 38) hV [ZR o23, ZI number] (st := []) (c_X1_hasRoomFor_2 (σ := σ) hσ o23 ko23 number (by omega) b23) dX1_leastLoad_38 mX1_108 (by decide) (Nat.le_of_ble_eq_true rfl) (Nat.le_refl _) (fun r38 hr38 pr38 => ?_)
          refine zr_if_eq (pc := 41) hV 59 dX1_leastLoad_41 (by decide) (by omega) (fun c6 => ?_) (fun c6 => ?_)
          · show V 59 [some (ZR 255), some (ZI number), some (ZI x2_4), some (ZI x3_4), some (ZR o23)] [] 284 σ
            refine zr_iinc (pc := 59) hV [some (ZR 255), some (ZI number), some (ZI x2_4), some (ZI (x3_4 + 1)), some (ZR o23)] (x3_4 + 1) dX1_leastLoad_59 rfl rfl (by decide) rfl rfl ?_
            refine zr_goto (pc := 62) hV 4 dX1_leastLoad_62 (by decide) ?_
            have t7 := zc_g3_3 hσ zc_s3
            refine zr_sub (pc := 4) hV [some (ZR 255), some (ZI number), some (ZI x2_4), some (ZI (x3_4 + 1)), none] (⟨rfl, rfl, rfl, rfl, trivial⟩) ?_
            exact ih4 x2_4 (x3_4 + 1) (by omega) (by omega) (zp_LL_n (by omega) (by omega) (by omega) (by rw [eo23]; exact b23) (fun q => by have q1 := q.1; have q2 := q.2.1; have q3 := q.2.2; rw [eo23] at q1 q2 q3; first | omega | (have z := pr38.2.mpr q2; omega) | (by_cases c : x2_4 < 0; (have z := pr51.2 (by omega); have z2 := (tb x3_4 (by omega) (by omega)).1; rw [eo23] at z2; omega); (have z := pr51.1 (by omega); omega))) hi4_0) (by omega) (by omega) (by omega)
          · show V 44 [some (ZR 255), some (ZI number), some (ZI x2_4), some (ZI x3_4), some (ZR o23)] [] 284 σ
            refine zr_aload (pc := 44) hV dX1_leastLoad_44 rfl ?_
            refine zr_getI (pc := 46) hV 11 dX1_leastLoad_46 fX1_91 rfl rfl (zc_k4 ko23) (zc_pos ko23 rfl) ?_
            have t8 := zc_g4_11 hσ ko23
            refine zr_aload_n (pc := 49) hV dX1_leastLoad_49 rfl rfl ?_
            refine zr_iload_n (pc := 50) hV dX1_leastLoad_50 rfl rfl ?_
            refine zr_callVp (pc := 51) hV [ZI x2_4] (st := [ZI (σ o23 11)]) (c_X1_ticksOf_2 (σ := σ) hσ x2_4 (by omega)) dX1_leastLoad_51 mX1_59 (zc_k255 zc_s255) (zc_pos zc_s255 rfl) (by decide) (Nat.le_of_ble_eq_true rfl) (Nat.le_refl _) (fun r51 hr51 pr51 => ?_)
            have t9 := zc_g3_3 hσ zc_s3
            refine zr_icmp_ge (pc := 54) hV 59 dX1_leastLoad_54 (by decide) (by omega) (by omega) (fun c10 => ?_) (fun c10 => ?_)
            · show V 59 [some (ZR 255), some (ZI number), some (ZI x2_4), some (ZI x3_4), some (ZR o23)] [] 284 σ
              refine zr_iinc (pc := 59) hV [some (ZR 255), some (ZI number), some (ZI x2_4), some (ZI (x3_4 + 1)), some (ZR o23)] (x3_4 + 1) dX1_leastLoad_59 rfl rfl (by decide) rfl rfl ?_
              refine zr_goto (pc := 62) hV 4 dX1_leastLoad_62 (by decide) ?_
              have t11 := zc_g3_3 hσ zc_s3
              refine zr_sub (pc := 4) hV [some (ZR 255), some (ZI number), some (ZI x2_4), some (ZI (x3_4 + 1)), none] (⟨rfl, rfl, rfl, rfl, trivial⟩) ?_
              exact ih4 x2_4 (x3_4 + 1) (by omega) (by omega) (zp_LL_n (by omega) (by omega) (by omega) (by rw [eo23]; exact b23) (fun q => by have q1 := q.1; have q2 := q.2.1; have q3 := q.2.2; rw [eo23] at q1 q2 q3; first | omega | (have z := pr38.2.mpr q2; omega) | (by_cases c : x2_4 < 0; (have z := pr51.2 (by omega); have z2 := (tb x3_4 (by omega) (by omega)).1; rw [eo23] at z2; omega); (have z := pr51.1 (by omega); omega))) hi4_0) (by omega) (by omega) (by omega)
            · show V 57 [some (ZR 255), some (ZI number), some (ZI x2_4), some (ZI x3_4), some (ZR o23)] [] 284 σ
              refine zr_iload_n (pc := 57) hV dX1_leastLoad_57 rfl rfl ?_
              refine zr_istore_n (pc := 58) hV [some (ZR 255), some (ZI number), some (ZI x3_4), some (ZI x3_4), some (ZR o23)] dX1_leastLoad_58 rfl (by decide) rfl rfl ?_
              show V 59 [some (ZR 255), some (ZI number), some (ZI x3_4), some (ZI x3_4), some (ZR o23)] [] 284 σ
              refine zr_iinc (pc := 59) hV [some (ZR 255), some (ZI number), some (ZI x3_4), some (ZI (x3_4 + 1)), some (ZR o23)] (x3_4 + 1) dX1_leastLoad_59 rfl rfl (by decide) rfl rfl ?_
              refine zr_goto (pc := 62) hV 4 dX1_leastLoad_62 (by decide) ?_
              have t12 := zc_g3_3 hσ zc_s3
              refine zr_sub (pc := 4) hV [some (ZR 255), some (ZI number), some (ZI x3_4), some (ZI (x3_4 + 1)), none] (⟨rfl, rfl, rfl, rfl, trivial⟩) ?_
              exact ih4 x3_4 (x3_4 + 1) (by omega) (by omega) (zp_LL_y (by omega) (by omega) (by omega) (by rw [eo23]; exact b23) (by rw [eo23]; omega) (by rw [eo23]; exact pr38.2.mp (by omega)) (fun h => by rw [eo23]; have q := pr51.1 (by omega); omega) hi4_0) (by omega) (by omega) (by omega)
  have t13 := zc_g3_3 hσ zc_s3
  exact L4 (20 - (0 : Int) + 1 : Int).toNat (-1) 0 (by omega) (by omega) (zp_LL_0 σ number) (by omega) (by omega) (by omega)
