set_option maxHeartbeats 800000 in
theorem c_X1_ticksOf {σ : zq_S} (hσ : zc_T σ) (number : Int) (q0 : zq_in number) : zq_C zc_w yX1_ticksOf cX1_ticksOf 3 (some .int) 1 21 284 284 [ZR 255, ZI number] σ (zq_pp σ (fun r => True)) := by
  refine zq_C_of (by decide) (Nat.le_refl _) (Nat.le_of_ble_eq_true rfl) [some (ZR 255), some (ZI number), none] rfl (fun V hV => ?_)
  show V 0 [some (ZR 255), some (ZI number), none] [] 284 σ
  refine zr_aload_n (pc := 0) hV dX1_ticksOf_0 rfl rfl ?_
  refine zr_getR (pc := 1) hV 0 3 dX1_ticksOf_1 fX1_34 rfl rfl (zc_k255 zc_s255) (zc_pos zc_s255 rfl) (zc_g255_0 hσ zc_s255) (by decide) ?_
  refine zr_iload_n (pc := 4) hV dX1_ticksOf_4 rfl rfl ?_
  refine zr_callVr (pc := 5) hV [ZI number] (st := []) (c_X9_numbered (σ := σ) hσ number (by omega)) dX1_ticksOf_5 mX1_87 (zc_k3 zc_s3) (zc_pos zc_s3 rfl) (by decide) (Nat.le_of_ble_eq_true rfl) (Nat.le_refl _) (fun r5 pr5 => ?_)
  refine zr_astore_nQ (pc := 8) hV [some (ZR 255), some (ZI number), some (zq_nr r5)] dX1_ticksOf_8 rfl (by decide) rfl rfl ?_
  refine zr_aload_nQ (pc := 9) hV dX1_ticksOf_9 rfl rfl ?_
  by_cases c1 : r5 < 0
  · rw [zq_nr_n c1]
    refine zr_ifnonnullN (pc := 10) hV dX1_ticksOf_10 ?_
    show V 13 [some (ZR 255), some (ZI number), some (ZN)] [] 284 σ
    refine zr_ldc (pc := 13) (v := 1000000) hV 1000000 dX1_ticksOf_13 kX1_86 (by decide) ?_
    refine zr_goto (pc := 15) hV 22 dX1_ticksOf_15 (by decide) ?_
    show V 22 [some (ZR 255), some (ZI number), some (ZN)] [ZI 1000000] 284 σ
    exact zr_iret (pc := 22) hV dX1_ticksOf_22 rfl rfl ⟨rfl, _, rfl, ⟨by decide, by decide⟩, trivial⟩
  · rw [zq_nr_p c1]
    have kr5 : zc_kd r5 = 4 := pr5.1 (by omega)
    have por5 := zc_pos kr5 rfl
    refine zr_ifnonnull (pc := 10) hV 18 dX1_ticksOf_10 (by decide) ?_
    show V 18 [some (ZR 255), some (ZI number), some (ZR r5)] [] 284 σ
    refine zr_aload_n (pc := 18) hV dX1_ticksOf_18 rfl rfl ?_
    refine zr_getI (pc := 19) hV 11 dX1_ticksOf_19 fX1_91 rfl rfl (zc_k4 kr5) (zc_pos kr5 rfl) ?_
    have t2 := zc_g4_11 hσ kr5
    show V 22 [some (ZR 255), some (ZI number), some (ZR r5)] [ZI (σ r5 11)] 284 σ
    exact zr_iret (pc := 22) hV dX1_ticksOf_22 rfl rfl ⟨rfl, _, rfl, (by omega), trivial⟩
set_option maxHeartbeats 800000 in
theorem c_X1_hasRoomFor {σ : zq_S} (hσ : zc_T σ) (order : Int) (korder : zc_kd order = 4) (number : Int) (q0 : zq_in number) : zq_C zc_w yX1_hasRoomFor cX1_hasRoomFor 2 (some .boolean) 2 41 284 284 [ZR order, ZI number] σ (zq_pp σ (fun r => (0 ≤ r ∧ r ≤ 1))) := by
  refine zq_C_of (by decide) (Nat.le_refl _) (Nat.le_of_ble_eq_true rfl) [some (ZR order), some (ZI number)] rfl (fun V hV => ?_)
  have poorder := zc_pos korder rfl
  show V 0 [some (ZR order), some (ZI number)] [] 284 σ
  refine zr_iload_n (pc := 0) hV dX1_hasRoomFor_0 rfl rfl ?_
  refine zr_iconst (pc := 1) hV 1 dX1_hasRoomFor_1 rfl ?_
  refine zr_aload_n (pc := 2) hV dX1_hasRoomFor_2 rfl rfl ?_
  refine zr_iconst (pc := 3) hV 3 dX1_hasRoomFor_3 rfl ?_
  refine zr_callVp (pc := 4) hV [ZI 3] (st := [ZI 1, ZI number]) (c_X3_fieldBits (σ := σ) hσ order korder 3 (by omega)) dX1_hasRoomFor_4 mX1_96 (zc_k4 korder) (zc_pos korder rfl) (by decide) (Nat.le_of_ble_eq_true rfl) (Nat.le_refl _) (fun r4 hr4 pr4 => ?_)
  refine zr_ishl (pc := 7) hV dX1_hasRoomFor_7 ?_
  have t1 := zq_shl_in 1 r4
  refine zr_icmp_ge (pc := 8) hV 15 dX1_hasRoomFor_8 (by decide) (by omega) (by omega) (fun c2 => ?_) (fun c2 => ?_)
  · show V 15 [some (ZR order), some (ZI number)] [] 284 σ
    refine zr_iconst (pc := 15) hV 0 dX1_hasRoomFor_15 rfl ?_
    show V 16 [some (ZR order), some (ZI number)] [ZI 0] 284 σ
    exact zr_zret (pc := 16) hV dX1_hasRoomFor_16 rfl rfl (by omega) ⟨rfl, _, rfl, ⟨by decide, by decide⟩, (by omega)⟩
  · show V 11 [some (ZR order), some (ZI number)] [] 284 σ
    refine zr_iconst (pc := 11) hV 1 dX1_hasRoomFor_11 rfl ?_
    refine zr_goto (pc := 12) hV 16 dX1_hasRoomFor_12 (by decide) ?_
    show V 16 [some (ZR order), some (ZI number)] [ZI 1] 284 σ
    exact zr_zret (pc := 16) hV dX1_hasRoomFor_16 rfl rfl (by omega) ⟨rfl, _, rfl, ⟨by decide, by decide⟩, (by omega)⟩
set_option maxHeartbeats 800000 in
theorem c_X1_leastLoad {σ : zq_S} (hσ : zc_T σ) (number : Int) (q0 : zq_in number) : zq_C zc_w yX1_leastLoad cX1_leastLoad 5 (some .int) 3 62 284 284 [ZR 255, ZI number] σ (zq_pp σ (fun r => True)) := by
  refine zq_C_of (by decide) (Nat.le_refl _) (Nat.le_of_ble_eq_true rfl) [some (ZR 255), some (ZI number), none, none, none] rfl (fun V hV => ?_)
  show V 0 [some (ZR 255), some (ZI number), none, none, none] [] 284 σ
  refine zr_iconst (pc := 0) hV (-1) dX1_leastLoad_0 rfl ?_
  refine zr_istore_n (pc := 1) hV [some (ZR 255), some (ZI number), some (ZI (-1)), none, none] dX1_leastLoad_1 rfl (by decide) rfl rfl ?_
  refine zr_iconst (pc := 2) hV 0 dX1_leastLoad_2 rfl ?_
  refine zr_istore_n (pc := 3) hV [some (ZR 255), some (ZI number), some (ZI (-1)), some (ZI 0), none] dX1_leastLoad_3 rfl (by decide) rfl rfl ?_
  have L4 : ∀ (fuel : Nat) (x2_4 : Int) (x3_4 : Int), ((-1) ≤ x2_4 ∧ x2_4 ≤ 2147483647) → (0 ≤ x3_4 ∧ x3_4 ≤ 20) → 20 - x3_4 < (fuel : Int) → V 4 [some (ZR 255), some (ZI number), some (ZI x2_4), some (ZI x3_4), none] [] 284 σ := by
    intro fuel
    induction fuel with
    | zero =>
      intro x2_4 x3_4 hx2_4 hx3_4 hm4
      exfalso; omega
    | succ fuel ih =>
      intro x2_4 x3_4 hx2_4 hx3_4 hm4
      have ih4 := ih
      show V 4 [some (ZR 255), some (ZI number), some (ZI x2_4), some (ZI x3_4), none] [] 284 σ
      refine zr_iload_n (pc := 4) hV dX1_leastLoad_4 rfl rfl ?_
      refine zr_aload_n (pc := 5) hV dX1_leastLoad_5 rfl rfl ?_
      refine zr_getR (pc := 6) hV 0 3 dX1_leastLoad_6 fX1_34 rfl rfl (zc_k255 zc_s255) (zc_pos zc_s255 rfl) (zc_g255_0 hσ zc_s255) (by decide) ?_
      refine zr_getI (pc := 9) hV 3 dX1_leastLoad_9 fX1_99 rfl rfl (zc_k3 zc_s3) (zc_pos zc_s3 rfl) ?_
      have t1 := zc_g3_3 hσ zc_s3
      refine zr_icmp_ge (pc := 12) hV 65 dX1_leastLoad_12 (by decide) (by omega) (by omega) (fun c2 => ?_) (fun c2 => ?_)
      · show V 65 [some (ZR 255), some (ZI number), some (ZI x2_4), some (ZI x3_4), none] [] 284 σ
        refine zr_iload_n (pc := 65) hV dX1_leastLoad_65 rfl rfl ?_
        exact zr_iret (pc := 66) hV dX1_leastLoad_66 rfl rfl ⟨rfl, _, rfl, (by omega), trivial⟩
      · show V 15 [some (ZR 255), some (ZI number), some (ZI x2_4), some (ZI x3_4), none] [] 284 σ
        refine zr_aload_n (pc := 15) hV dX1_leastLoad_15 rfl rfl ?_
        refine zr_getR (pc := 16) hV 0 3 dX1_leastLoad_16 fX1_34 rfl rfl (zc_k255 zc_s255) (zc_pos zc_s255 rfl) (zc_g255_0 hσ zc_s255) (by decide) ?_
        refine zr_getR (pc := 19) hV 6 10 dX1_leastLoad_19 fX1_101 rfl rfl (zc_k3 zc_s3) (zc_pos zc_s3 rfl) (zc_g3_6 hσ zc_s3) (by decide) ?_
        refine zr_iload_n (pc := 22) hV dX1_leastLoad_22 rfl rfl ?_
        have ga23 : zc_kd (σ 10 x3_4) = 4 := zc_ga10 hσ zc_s10 x3_4 (by omega) (by omega)
        refine zr_aald (pc := 23) hV dX1_leastLoad_23 (zc_k10 zc_s10) (Or.inl rfl) (zc_pos zc_s10 rfl) rfl (by omega) (zc_pos ga23 rfl).1 ?_
        obtain ⟨o23, eo23⟩ : ∃ o, σ 10 x3_4 = o := ⟨_, rfl⟩
        rw [eo23] at ga23 ⊢
        have ko23 := ga23
        have po23 := zc_pos ko23 rfl
        show V 24 [some (ZR 255), some (ZI number), some (ZI x2_4), some (ZI x3_4), none] [ZR o23] 284 σ
        refine zr_astore (pc := 24) hV [some (ZR 255), some (ZI number), some (ZI x2_4), some (ZI x3_4), some (ZR o23)] dX1_leastLoad_24 (by decide) rfl rfl ?_
        refine zr_aload (pc := 26) hV dX1_leastLoad_26 rfl ?_
        refine zr_getI (pc := 28) hV 14 dX1_leastLoad_28 fX1_105 rfl rfl (zc_k4 ko23) (zc_pos ko23 rfl) ?_
        have t3 := zc_g4_14 hσ ko23
        refine zr_iconst (pc := 31) hV 1 dX1_leastLoad_31 rfl ?_
        refine zr_icmp_ne (pc := 32) hV 59 dX1_leastLoad_32 (by decide) (by omega) ⟨by decide, by decide⟩ (fun c4 => ?_) (fun c4 => ?_)
        · show V 59 [some (ZR 255), some (ZI number), some (ZI x2_4), some (ZI x3_4), some (ZR o23)] [] 284 σ
          refine zr_iinc (pc := 59) hV [some (ZR 255), some (ZI number), some (ZI x2_4), some (ZI (x3_4 + 1)), some (ZR o23)] (x3_4 + 1) dX1_leastLoad_59 rfl rfl (by decide) rfl rfl ?_
          refine zr_goto (pc := 62) hV 4 dX1_leastLoad_62 (by decide) ?_
          refine zr_sub (pc := 4) hV [some (ZR 255), some (ZI number), some (ZI x2_4), some (ZI (x3_4 + 1)), none] (⟨rfl, rfl, rfl, rfl, trivial⟩) ?_
          exact ih4 x2_4 (x3_4 + 1) (by omega) (by omega) (by omega)
        · show V 35 [some (ZR 255), some (ZI number), some (ZI x2_4), some (ZI x3_4), some (ZR o23)] [] 284 σ
          refine zr_aload (pc := 35) hV dX1_leastLoad_35 rfl ?_
          refine zr_iload_n (pc := 37) hV dX1_leastLoad_37 rfl rfl ?_
          refine zr_callSp (pc := 38) hV [ZR o23, ZI number] (st := []) (c_X1_hasRoomFor (σ := σ) hσ o23 ko23 number (by omega)) dX1_leastLoad_38 mX1_108 (by decide) (Nat.le_of_ble_eq_true rfl) (Nat.le_refl _) (fun r38 hr38 pr38 => ?_)
          refine zr_if_eq (pc := 41) hV 59 dX1_leastLoad_41 (by decide) (by omega) (fun c5 => ?_) (fun c5 => ?_)
          · show V 59 [some (ZR 255), some (ZI number), some (ZI x2_4), some (ZI x3_4), some (ZR o23)] [] 284 σ
            refine zr_iinc (pc := 59) hV [some (ZR 255), some (ZI number), some (ZI x2_4), some (ZI (x3_4 + 1)), some (ZR o23)] (x3_4 + 1) dX1_leastLoad_59 rfl rfl (by decide) rfl rfl ?_
            refine zr_goto (pc := 62) hV 4 dX1_leastLoad_62 (by decide) ?_
            refine zr_sub (pc := 4) hV [some (ZR 255), some (ZI number), some (ZI x2_4), some (ZI (x3_4 + 1)), none] (⟨rfl, rfl, rfl, rfl, trivial⟩) ?_
            exact ih4 x2_4 (x3_4 + 1) (by omega) (by omega) (by omega)
          · show V 44 [some (ZR 255), some (ZI number), some (ZI x2_4), some (ZI x3_4), some (ZR o23)] [] 284 σ
            refine zr_aload (pc := 44) hV dX1_leastLoad_44 rfl ?_
            refine zr_getI (pc := 46) hV 11 dX1_leastLoad_46 fX1_91 rfl rfl (zc_k4 ko23) (zc_pos ko23 rfl) ?_
            have t6 := zc_g4_11 hσ ko23
            refine zr_aload_n (pc := 49) hV dX1_leastLoad_49 rfl rfl ?_
            refine zr_iload_n (pc := 50) hV dX1_leastLoad_50 rfl rfl ?_
            refine zr_callVp (pc := 51) hV [ZI x2_4] (st := [ZI (σ o23 11)]) (c_X1_ticksOf (σ := σ) hσ x2_4 (by omega)) dX1_leastLoad_51 mX1_59 (zc_k255 zc_s255) (zc_pos zc_s255 rfl) (by decide) (Nat.le_of_ble_eq_true rfl) (Nat.le_refl _) (fun r51 hr51 pr51 => ?_)
            refine zr_icmp_ge (pc := 54) hV 59 dX1_leastLoad_54 (by decide) (by omega) (by omega) (fun c7 => ?_) (fun c7 => ?_)
            · show V 59 [some (ZR 255), some (ZI number), some (ZI x2_4), some (ZI x3_4), some (ZR o23)] [] 284 σ
              refine zr_iinc (pc := 59) hV [some (ZR 255), some (ZI number), some (ZI x2_4), some (ZI (x3_4 + 1)), some (ZR o23)] (x3_4 + 1) dX1_leastLoad_59 rfl rfl (by decide) rfl rfl ?_
              refine zr_goto (pc := 62) hV 4 dX1_leastLoad_62 (by decide) ?_
              refine zr_sub (pc := 4) hV [some (ZR 255), some (ZI number), some (ZI x2_4), some (ZI (x3_4 + 1)), none] (⟨rfl, rfl, rfl, rfl, trivial⟩) ?_
              exact ih4 x2_4 (x3_4 + 1) (by omega) (by omega) (by omega)
            · show V 57 [some (ZR 255), some (ZI number), some (ZI x2_4), some (ZI x3_4), some (ZR o23)] [] 284 σ
              refine zr_iload_n (pc := 57) hV dX1_leastLoad_57 rfl rfl ?_
              refine zr_istore_n (pc := 58) hV [some (ZR 255), some (ZI number), some (ZI x3_4), some (ZI x3_4), some (ZR o23)] dX1_leastLoad_58 rfl (by decide) rfl rfl ?_
              show V 59 [some (ZR 255), some (ZI number), some (ZI x3_4), some (ZI x3_4), some (ZR o23)] [] 284 σ
              refine zr_iinc (pc := 59) hV [some (ZR 255), some (ZI number), some (ZI x3_4), some (ZI (x3_4 + 1)), some (ZR o23)] (x3_4 + 1) dX1_leastLoad_59 rfl rfl (by decide) rfl rfl ?_
              refine zr_goto (pc := 62) hV 4 dX1_leastLoad_62 (by decide) ?_
              refine zr_sub (pc := 4) hV [some (ZR 255), some (ZI number), some (ZI x3_4), some (ZI (x3_4 + 1)), none] (⟨rfl, rfl, rfl, rfl, trivial⟩) ?_
              exact ih4 x3_4 (x3_4 + 1) (by omega) (by omega) (by omega)
  exact L4 (20 - (0 : Int) + 1 : Int).toNat (-1) 0 (by omega) (by omega) (by omega)
set_option maxHeartbeats 800000 in
theorem c_X1_leastMove {σ : zq_S} (hσ : zc_T σ)   : zq_C zc_w yX1_leastMove cX1_leastMove 3 (some .int) 2 43 284 284 [ZR 255] σ (zq_pp σ (fun r => True)) := by
  refine zq_C_of (by decide) (Nat.le_refl _) (Nat.le_of_ble_eq_true rfl) [some (ZR 255), none, none] rfl (fun V hV => ?_)
  show V 0 [some (ZR 255), none, none] [] 284 σ
  refine zr_iconst (pc := 0) hV (-1) dX1_leastMove_0 rfl ?_
  refine zr_istore_n (pc := 1) hV [some (ZR 255), some (ZI (-1)), none] dX1_leastMove_1 rfl (by decide) rfl rfl ?_
  refine zr_iconst (pc := 2) hV 0 dX1_leastMove_2 rfl ?_
  refine zr_istore_n (pc := 3) hV [some (ZR 255), some (ZI (-1)), some (ZI 0)] dX1_leastMove_3 rfl (by decide) rfl rfl ?_
  have L4 : ∀ (fuel : Nat) (x1_4 : Int) (x2_4 : Int), ((-1) ≤ x1_4 ∧ x1_4 ≤ 2147483647) → (0 ≤ x2_4 ∧ x2_4 ≤ 20) → 20 - x2_4 < (fuel : Int) → V 4 [some (ZR 255), some (ZI x1_4), some (ZI x2_4)] [] 284 σ := by
    intro fuel
    induction fuel with
    | zero =>
      intro x1_4 x2_4 hx1_4 hx2_4 hm4
      exfalso; omega
    | succ fuel ih =>
      intro x1_4 x2_4 hx1_4 hx2_4 hm4
      have ih4 := ih
      show V 4 [some (ZR 255), some (ZI x1_4), some (ZI x2_4)] [] 284 σ
      refine zr_iload_n (pc := 4) hV dX1_leastMove_4 rfl rfl ?_
      refine zr_aload_n (pc := 5) hV dX1_leastMove_5 rfl rfl ?_
      refine zr_getR (pc := 6) hV 0 3 dX1_leastMove_6 fX1_34 rfl rfl (zc_k255 zc_s255) (zc_pos zc_s255 rfl) (zc_g255_0 hσ zc_s255) (by decide) ?_
      refine zr_getI (pc := 9) hV 3 dX1_leastMove_9 fX1_99 rfl rfl (zc_k3 zc_s3) (zc_pos zc_s3 rfl) ?_
      have t1 := zc_g3_3 hσ zc_s3
      refine zr_icmp_ge (pc := 12) hV 59 dX1_leastMove_12 (by decide) (by omega) (by omega) (fun c2 => ?_) (fun c2 => ?_)
      · show V 59 [some (ZR 255), some (ZI x1_4), some (ZI x2_4)] [] 284 σ
        refine zr_iload_n (pc := 59) hV dX1_leastMove_59 rfl rfl ?_
        exact zr_iret (pc := 60) hV dX1_leastMove_60 rfl rfl ⟨rfl, _, rfl, (by omega), trivial⟩
      · show V 15 [some (ZR 255), some (ZI x1_4), some (ZI x2_4)] [] 284 σ
        refine zr_aload_n (pc := 15) hV dX1_leastMove_15 rfl rfl ?_
        refine zr_getR (pc := 16) hV 0 3 dX1_leastMove_16 fX1_34 rfl rfl (zc_k255 zc_s255) (zc_pos zc_s255 rfl) (zc_g255_0 hσ zc_s255) (by decide) ?_
        refine zr_getR (pc := 19) hV 6 10 dX1_leastMove_19 fX1_101 rfl rfl (zc_k3 zc_s3) (zc_pos zc_s3 rfl) (zc_g3_6 hσ zc_s3) (by decide) ?_
        refine zr_iload_n (pc := 22) hV dX1_leastMove_22 rfl rfl ?_
        have ga23 : zc_kd (σ 10 x2_4) = 4 := zc_ga10 hσ zc_s10 x2_4 (by omega) (by omega)
        refine zr_aald (pc := 23) hV dX1_leastMove_23 (zc_k10 zc_s10) (Or.inl rfl) (zc_pos zc_s10 rfl) rfl (by omega) (zc_pos ga23 rfl).1 ?_
        obtain ⟨o23, eo23⟩ : ∃ o, σ 10 x2_4 = o := ⟨_, rfl⟩
        rw [eo23] at ga23 ⊢
        have ko23 := ga23
        have po23 := zc_pos ko23 rfl
        show V 24 [some (ZR 255), some (ZI x1_4), some (ZI x2_4)] [ZR o23] 284 σ
        refine zr_getI (pc := 24) hV 14 dX1_leastMove_24 fX1_105 rfl rfl (zc_k4 ko23) (zc_pos ko23 rfl) ?_
        have t3 := zc_g4_14 hσ ko23
        refine zr_iconst (pc := 27) hV 2 dX1_leastMove_27 rfl ?_
        refine zr_icmp_ne (pc := 28) hV 53 dX1_leastMove_28 (by decide) (by omega) ⟨by decide, by decide⟩ (fun c4 => ?_) (fun c4 => ?_)
        · show V 53 [some (ZR 255), some (ZI x1_4), some (ZI x2_4)] [] 284 σ
          refine zr_iinc (pc := 53) hV [some (ZR 255), some (ZI x1_4), some (ZI (x2_4 + 1))] (x2_4 + 1) dX1_leastMove_53 rfl rfl (by decide) rfl rfl ?_
          refine zr_goto (pc := 56) hV 4 dX1_leastMove_56 (by decide) ?_
          exact ih4 x1_4 (x2_4 + 1) (by omega) (by omega) (by omega)
        · show V 31 [some (ZR 255), some (ZI x1_4), some (ZI x2_4)] [] 284 σ
          refine zr_aload_n (pc := 31) hV dX1_leastMove_31 rfl rfl ?_
          refine zr_getR (pc := 32) hV 0 3 dX1_leastMove_32 fX1_34 rfl rfl (zc_k255 zc_s255) (zc_pos zc_s255 rfl) (zc_g255_0 hσ zc_s255) (by decide) ?_
          refine zr_getR (pc := 35) hV 6 10 dX1_leastMove_35 fX1_101 rfl rfl (zc_k3 zc_s3) (zc_pos zc_s3 rfl) (zc_g3_6 hσ zc_s3) (by decide) ?_
          refine zr_iload_n (pc := 38) hV dX1_leastMove_38 rfl rfl ?_
          have ga39 : zc_kd (σ 10 x2_4) = 4 := zc_ga10 hσ zc_s10 x2_4 (by omega) (by omega)
          refine zr_aald (pc := 39) hV dX1_leastMove_39 (zc_k10 zc_s10) (Or.inl rfl) (zc_pos zc_s10 rfl) rfl (by omega) (zc_pos ga39 rfl).1 ?_
          obtain ⟨o39, eo39⟩ : ∃ o, σ 10 x2_4 = o := ⟨_, rfl⟩
          rw [eo39] at ga39 ⊢
          have ko39 := ga39
          have po39 := zc_pos ko39 rfl
          show V 40 [some (ZR 255), some (ZI x1_4), some (ZI x2_4)] [ZR o39] 284 σ
          refine zr_getI (pc := 40) hV 11 dX1_leastMove_40 fX1_91 rfl rfl (zc_k4 ko39) (zc_pos ko39 rfl) ?_
          have t5 := zc_g4_11 hσ ko39
          refine zr_aload_n (pc := 43) hV dX1_leastMove_43 rfl rfl ?_
          refine zr_iload_n (pc := 44) hV dX1_leastMove_44 rfl rfl ?_
          refine zr_callVp (pc := 45) hV [ZI x1_4] (st := [ZI (σ o39 11)]) (c_X1_ticksOf (σ := σ) hσ x1_4 (by omega)) dX1_leastMove_45 mX1_59 (zc_k255 zc_s255) (zc_pos zc_s255 rfl) (by decide) (Nat.le_of_ble_eq_true rfl) (Nat.le_refl _) (fun r45 hr45 pr45 => ?_)
          refine zr_icmp_ge (pc := 48) hV 53 dX1_leastMove_48 (by decide) (by omega) (by omega) (fun c6 => ?_) (fun c6 => ?_)
          · show V 53 [some (ZR 255), some (ZI x1_4), some (ZI x2_4)] [] 284 σ
            refine zr_iinc (pc := 53) hV [some (ZR 255), some (ZI x1_4), some (ZI (x2_4 + 1))] (x2_4 + 1) dX1_leastMove_53 rfl rfl (by decide) rfl rfl ?_
            refine zr_goto (pc := 56) hV 4 dX1_leastMove_56 (by decide) ?_
            exact ih4 x1_4 (x2_4 + 1) (by omega) (by omega) (by omega)
          · show V 51 [some (ZR 255), some (ZI x1_4), some (ZI x2_4)] [] 284 σ
            refine zr_iload_n (pc := 51) hV dX1_leastMove_51 rfl rfl ?_
            refine zr_istore_n (pc := 52) hV [some (ZR 255), some (ZI x2_4), some (ZI x2_4)] dX1_leastMove_52 rfl (by decide) rfl rfl ?_
            show V 53 [some (ZR 255), some (ZI x2_4), some (ZI x2_4)] [] 284 σ
            refine zr_iinc (pc := 53) hV [some (ZR 255), some (ZI x2_4), some (ZI (x2_4 + 1))] (x2_4 + 1) dX1_leastMove_53 rfl rfl (by decide) rfl rfl ?_
            refine zr_goto (pc := 56) hV 4 dX1_leastMove_56 (by decide) ?_
            exact ih4 x2_4 (x2_4 + 1) (by omega) (by omega) (by omega)
  exact L4 (20 - (0 : Int) + 1 : Int).toNat (-1) 0 (by omega) (by omega) (by omega)
set_option maxHeartbeats 800000 in
theorem c_X1_takesRegister {σ : zq_S} (form : Int) (q0 : zq_in form) : zq_C zc_w yX1_takesRegister cX1_takesRegister 1 (some .boolean) 0 0 284 284 [ZI form] σ (zq_pp σ (fun r => (0 ≤ r ∧ r ≤ 1))) := by
  refine zq_C_of (by decide) (Nat.le_refl _) (Nat.le_of_ble_eq_true rfl) [some (ZI form)] rfl (fun V hV => ?_)
  show V 0 [some (ZI form)] [] 284 σ
  refine zr_iload_n (pc := 0) hV dX1_takesRegister_0 rfl rfl ?_
  refine zr_iconst (pc := 1) hV 3 dX1_takesRegister_1 rfl ?_
  refine zr_icmp_eq (pc := 2) hV 10 dX1_takesRegister_2 (by decide) (by omega) ⟨by decide, by decide⟩ (fun c1 => ?_) (fun c1 => ?_)
  · show V 10 [some (ZI form)] [] 284 σ
    refine zr_iconst (pc := 10) hV 1 dX1_takesRegister_10 rfl ?_
    refine zr_goto (pc := 11) hV 15 dX1_takesRegister_11 (by decide) ?_
    show V 15 [some (ZI form)] [ZI 1] 284 σ
    exact zr_zret (pc := 15) hV dX1_takesRegister_15 rfl rfl (by omega) ⟨rfl, _, rfl, ⟨by decide, by decide⟩, (by omega)⟩
  · show V 5 [some (ZI form)] [] 284 σ
    refine zr_iload_n (pc := 5) hV dX1_takesRegister_5 rfl rfl ?_
    refine zr_iconst (pc := 6) hV 5 dX1_takesRegister_6 rfl ?_
    refine zr_icmp_ne (pc := 7) hV 14 dX1_takesRegister_7 (by decide) (by omega) ⟨by decide, by decide⟩ (fun c2 => ?_) (fun c2 => ?_)
    · show V 14 [some (ZI form)] [] 284 σ
      refine zr_iconst (pc := 14) hV 0 dX1_takesRegister_14 rfl ?_
      show V 15 [some (ZI form)] [ZI 0] 284 σ
      exact zr_zret (pc := 15) hV dX1_takesRegister_15 rfl rfl (by omega) ⟨rfl, _, rfl, ⟨by decide, by decide⟩, (by omega)⟩
    · show V 10 [some (ZI form)] [] 284 σ
      refine zr_iconst (pc := 10) hV 1 dX1_takesRegister_10 rfl ?_
      refine zr_goto (pc := 11) hV 15 dX1_takesRegister_11 (by decide) ?_
      show V 15 [some (ZI form)] [ZI 1] 284 σ
      exact zr_zret (pc := 15) hV dX1_takesRegister_15 rfl rfl (by omega) ⟨rfl, _, rfl, ⟨by decide, by decide⟩, (by omega)⟩
set_option maxHeartbeats 800000 in
theorem c_X1_worksInPlace {σ : zq_S} (form : Int) (q0 : zq_in form) : zq_C zc_w yX1_worksInPlace cX1_worksInPlace 1 (some .boolean) 0 0 284 284 [ZI form] σ (zq_pp σ (fun r => (0 ≤ r ∧ r ≤ 1))) := by
  refine zq_C_of (by decide) (Nat.le_refl _) (Nat.le_of_ble_eq_true rfl) [some (ZI form)] rfl (fun V hV => ?_)
  show V 0 [some (ZI form)] [] 284 σ
  refine zr_iload_n (pc := 0) hV dX1_worksInPlace_0 rfl rfl ?_
  refine zr_iconst (pc := 1) hV 5 dX1_worksInPlace_1 rfl ?_
  refine zr_icmp_eq (pc := 2) hV 11 dX1_worksInPlace_2 (by decide) (by omega) ⟨by decide, by decide⟩ (fun c1 => ?_) (fun c1 => ?_)
  · show V 11 [some (ZI form)] [] 284 σ
    refine zr_iconst (pc := 11) hV 1 dX1_worksInPlace_11 rfl ?_
    refine zr_goto (pc := 12) hV 16 dX1_worksInPlace_12 (by decide) ?_
    show V 16 [some (ZI form)] [ZI 1] 284 σ
    exact zr_zret (pc := 16) hV dX1_worksInPlace_16 rfl rfl (by omega) ⟨rfl, _, rfl, ⟨by decide, by decide⟩, (by omega)⟩
  · show V 5 [some (ZI form)] [] 284 σ
    refine zr_iload_n (pc := 5) hV dX1_worksInPlace_5 rfl rfl ?_
    refine zr_bipush (pc := 6) hV 6 dX1_worksInPlace_6 (by decide) ?_
    refine zr_icmp_ne (pc := 8) hV 15 dX1_worksInPlace_8 (by decide) (by omega) ⟨by decide, by decide⟩ (fun c2 => ?_) (fun c2 => ?_)
    · show V 15 [some (ZI form)] [] 284 σ
      refine zr_iconst (pc := 15) hV 0 dX1_worksInPlace_15 rfl ?_
      show V 16 [some (ZI form)] [ZI 0] 284 σ
      exact zr_zret (pc := 16) hV dX1_worksInPlace_16 rfl rfl (by omega) ⟨rfl, _, rfl, ⟨by decide, by decide⟩, (by omega)⟩
    · show V 11 [some (ZI form)] [] 284 σ
      refine zr_iconst (pc := 11) hV 1 dX1_worksInPlace_11 rfl ?_
      refine zr_goto (pc := 12) hV 16 dX1_worksInPlace_12 (by decide) ?_
      show V 16 [some (ZI form)] [ZI 1] 284 σ
      exact zr_zret (pc := 16) hV dX1_worksInPlace_16 rfl rfl (by omega) ⟨rfl, _, rfl, ⟨by decide, by decide⟩, (by omega)⟩
set_option maxHeartbeats 800000 in
theorem c_X1_priceBy {σ : zq_S} (hσ : zc_T σ) (order : Int) (korder : zc_kd order = 4) (node : Int) (moveTicks : Int) (q0 : 0 ≤ node ∧ node ≤ 38) (q1 : zq_in moveTicks) : zq_C zc_w yX1_priceBy cX1_priceBy 7 (some .int) 3 62 284 284 [ZR 255, ZR order, ZI node, ZI moveTicks] σ (zq_pp σ (fun r => True)) := by
  refine zq_C_of (by decide) (Nat.le_refl _) (Nat.le_of_ble_eq_true rfl) [some (ZR 255), some (ZR order), some (ZI node), some (ZI moveTicks), none, none, none] rfl (fun V hV => ?_)
  have poorder := zc_pos korder rfl
  show V 0 [some (ZR 255), some (ZR order), some (ZI node), some (ZI moveTicks), none, none, none] [] 284 σ
  refine zr_aload_n (pc := 0) hV dX1_priceBy_0 rfl rfl ?_
  obtain ⟨o1, eo1⟩ : ∃ o, σ 255 1 = o := ⟨_, rfl⟩
  have ko1 : zc_kd o1 = 256 := eo1 ▸ zc_g255_1 hσ zc_s255
  have po1 := zc_pos ko1 rfl
  refine zr_getR (pc := 1) hV 1 o1 dX1_priceBy_1 fX1_12 rfl rfl (zc_k255 zc_s255) (zc_pos zc_s255 rfl) (by omega) (zc_pos ko1 rfl).1 ?_
  refine zr_getR (pc := 4) hV 2 (o1 + 3) dX1_priceBy_4 fX1_122 rfl rfl (zc_k256 ko1) (zc_pos ko1 rfl) (zc_g256_2 hσ ko1) (zc_pos (zc_p256_3 ko1) rfl).1 ?_
  refine zr_iload_n (pc := 7) hV dX1_priceBy_7 rfl rfl ?_
  refine zr_iald (pc := 8) hV dX1_priceBy_8 (zc_k259 (zc_p256_3 ko1)) (zc_pos (zc_p256_3 ko1) rfl) rfl (by omega) ?_
  have t1 := zc_ga259 hσ (zc_p256_3 ko1) node
  refine zr_istore (pc := 9) hV [some (ZR 255), some (ZR order), some (ZI node), some (ZI moveTicks), some (ZI (σ (o1 + 3) node)), none, none] dX1_priceBy_9 (by decide) rfl rfl ?_
  refine zr_aload_n (pc := 11) hV dX1_priceBy_11 rfl rfl ?_
  refine zr_getR (pc := 12) hV 1 o1 dX1_priceBy_12 fX1_12 rfl rfl (zc_k255 zc_s255) (zc_pos zc_s255 rfl) (by omega) (zc_pos ko1 rfl).1 ?_
  refine zr_getR (pc := 15) hV 3 (o1 + 4) dX1_priceBy_15 fX1_125 rfl rfl (zc_k256 ko1) (zc_pos ko1 rfl) (zc_g256_3 hσ ko1) (zc_pos (zc_p256_4 ko1) rfl).1 ?_
  refine zr_iload_n (pc := 18) hV dX1_priceBy_18 rfl rfl ?_
  refine zr_iald (pc := 19) hV dX1_priceBy_19 (zc_k260 (zc_p256_4 ko1)) (zc_pos (zc_p256_4 ko1) rfl) rfl (by omega) ?_
  have t2 := zc_ga260 hσ (zc_p256_4 ko1) node
  refine zr_istore (pc := 20) hV [some (ZR 255), some (ZR order), some (ZI node), some (ZI moveTicks), some (ZI (σ (o1 + 3) node)), some (ZI (σ (o1 + 4) node)), none] dX1_priceBy_20 (by decide) rfl rfl ?_
  refine zr_aload_n (pc := 22) hV dX1_priceBy_22 rfl rfl ?_
  refine zr_getI (pc := 23) hV 11 dX1_priceBy_23 fX1_91 rfl rfl (zc_k4 korder) (zc_pos korder rfl) ?_
  have t3 := zc_g4_11 hσ korder
  refine zr_aload_n (pc := 26) hV dX1_priceBy_26 rfl rfl ?_
  refine zr_getR (pc := 27) hV 5 272 dX1_priceBy_27 fX1_21 rfl rfl (zc_k255 zc_s255) (zc_pos zc_s255 rfl) (zc_g255_5 hσ zc_s255) (by decide) ?_
  refine zr_iload (pc := 30) hV dX1_priceBy_30 rfl ?_
  refine zr_iald (pc := 32) hV dX1_priceBy_32 (zc_k272 zc_s272) (zc_pos zc_s272 rfl) rfl (by omega) ?_
  have t4 := zc_ga272 hσ zc_s272 (σ (o1 + 3) node)
  refine zr_iadd (pc := 33) hV dX1_priceBy_33 ?_
  refine zr_any (pc := 34) hV (fun y34 hy34 _ => ?_)
  refine zr_istore (pc := 34) hV [some (ZR 255), some (ZR order), some (ZI node), some (ZI moveTicks), some (ZI (σ (o1 + 3) node)), some (ZI (σ (o1 + 4) node)), some (ZI y34)] dX1_priceBy_34 (by decide) rfl rfl ?_
  refine zr_aload_n (pc := 36) hV dX1_priceBy_36 rfl rfl ?_
  refine zr_getI (pc := 37) hV 14 dX1_priceBy_37 fX1_105 rfl rfl (zc_k4 korder) (zc_pos korder rfl) ?_
  have t5 := zc_g4_14 hσ korder
  have t6 := zc_g4_14 hσ korder
  refine zr_callSp (pc := 40) hV [ZI (σ order 14)] (st := []) (c_X1_takesRegister (σ := σ) (σ order 14) (by omega)) dX1_priceBy_40 mX1_128 (by decide) (Nat.le_of_ble_eq_true rfl) (Nat.le_refl _) (fun r40 hr40 pr40 => ?_)
  have J93 : ∀ (x6_93 : Int), ((-2147483648) ≤ x6_93 ∧ x6_93 ≤ 2147483647) → V 93 [some (ZR 255), some (ZR order), none, some (ZI moveTicks), some (ZI (σ (o1 + 3) node)), none, some (ZI x6_93)] [] 284 σ := by
    intro x6_93 hx6_93
    show V 93 [some (ZR 255), some (ZR order), none, some (ZI moveTicks), some (ZI (σ (o1 + 3) node)), none, some (ZI x6_93)] [] 284 σ
    refine zr_aload_n (pc := 93) hV dX1_priceBy_93 rfl rfl ?_
    refine zr_getI (pc := 94) hV 14 dX1_priceBy_94 fX1_105 rfl rfl (zc_k4 korder) (zc_pos korder rfl) ?_
    have t7 := zc_g4_14 hσ korder
    have t8 := zc_g4_14 hσ korder
    refine zr_callSp (pc := 97) hV [ZI (σ order 14)] (st := []) (c_X1_worksInPlace (σ := σ) (σ order 14) (by omega)) dX1_priceBy_97 mX1_131 (by decide) (Nat.le_of_ble_eq_true rfl) (Nat.le_refl _) (fun r97 hr97 pr97 => ?_)
    refine zr_if_eq (pc := 100) hV 121 dX1_priceBy_100 (by decide) (by omega) (fun c9 => ?_) (fun c9 => ?_)
    · show V 121 [some (ZR 255), some (ZR order), none, some (ZI moveTicks), some (ZI (σ (o1 + 3) node)), none, some (ZI x6_93)] [] 284 σ
      refine zr_iload (pc := 121) hV dX1_priceBy_121 rfl ?_
      refine zr_ldc (pc := 123) (v := 1000000) hV 1000000 dX1_priceBy_123 kX1_86 (by decide) ?_
      refine zr_min (pc := 125) hV (st := []) dX1_priceBy_125 lX1_134 (by omega) ⟨by decide, by decide⟩ (Nat.le_of_ble_eq_true rfl) rfl rfl (fun r125 pr125 qr125 => ?_)
      exact zr_iret (pc := 128) hV dX1_priceBy_128 rfl rfl ⟨rfl, _, rfl, (by omega), trivial⟩
    · show V 103 [some (ZR 255), some (ZR order), none, some (ZI moveTicks), some (ZI (σ (o1 + 3) node)), none, some (ZI x6_93)] [] 284 σ
      refine zr_aload_n (pc := 103) hV dX1_priceBy_103 rfl rfl ?_
      refine zr_getR (pc := 104) hV 1 o1 dX1_priceBy_104 fX1_12 rfl rfl (zc_k255 zc_s255) (zc_pos zc_s255 rfl) (by omega) (zc_pos ko1 rfl).1 ?_
      refine zr_iload (pc := 107) hV dX1_priceBy_107 rfl ?_
      refine zr_callVp (pc := 109) hV [ZI (σ (o1 + 3) node)] (st := []) (c_X7_isVariable (σ := σ) hσ o1 ko1 (σ (o1 + 3) node) (by omega)) dX1_priceBy_109 mX1_66 (zc_k256 ko1) (zc_pos ko1 rfl) (by decide) (Nat.le_of_ble_eq_true rfl) (Nat.le_refl _) (fun r109 hr109 pr109 => ?_)
      refine zr_if_eq (pc := 112) hV 121 dX1_priceBy_112 (by decide) (by omega) (fun c10 => ?_) (fun c10 => ?_)
      · show V 121 [some (ZR 255), some (ZR order), none, some (ZI moveTicks), some (ZI (σ (o1 + 3) node)), none, some (ZI x6_93)] [] 284 σ
        refine zr_iload (pc := 121) hV dX1_priceBy_121 rfl ?_
        refine zr_ldc (pc := 123) (v := 1000000) hV 1000000 dX1_priceBy_123 kX1_86 (by decide) ?_
        refine zr_min (pc := 125) hV (st := []) dX1_priceBy_125 lX1_134 (by omega) ⟨by decide, by decide⟩ (Nat.le_of_ble_eq_true rfl) rfl rfl (fun r125 pr125 qr125 => ?_)
        exact zr_iret (pc := 128) hV dX1_priceBy_128 rfl rfl ⟨rfl, _, rfl, (by omega), trivial⟩
      · show V 115 [some (ZR 255), some (ZR order), none, some (ZI moveTicks), some (ZI (σ (o1 + 3) node)), none, some (ZI x6_93)] [] 284 σ
        refine zr_iload (pc := 115) hV dX1_priceBy_115 rfl ?_
        refine zr_iload_n (pc := 117) hV dX1_priceBy_117 rfl rfl ?_
        refine zr_iadd (pc := 118) hV dX1_priceBy_118 ?_
        refine zr_any (pc := 119) hV (fun y119 hy119 _ => ?_)
        refine zr_istore (pc := 119) hV [some (ZR 255), some (ZR order), none, some (ZI moveTicks), some (ZI (σ (o1 + 3) node)), none, some (ZI y119)] dX1_priceBy_119 (by decide) rfl rfl ?_
        show V 121 [some (ZR 255), some (ZR order), none, some (ZI moveTicks), some (ZI (σ (o1 + 3) node)), none, some (ZI y119)] [] 284 σ
        refine zr_iload (pc := 121) hV dX1_priceBy_121 rfl ?_
        refine zr_ldc (pc := 123) (v := 1000000) hV 1000000 dX1_priceBy_123 kX1_86 (by decide) ?_
        refine zr_min (pc := 125) hV (st := []) dX1_priceBy_125 lX1_134 (by omega) ⟨by decide, by decide⟩ (Nat.le_of_ble_eq_true rfl) rfl rfl (fun r125 pr125 qr125 => ?_)
        exact zr_iret (pc := 128) hV dX1_priceBy_128 rfl rfl ⟨rfl, _, rfl, (by omega), trivial⟩
  refine zr_if_eq (pc := 43) hV 61 dX1_priceBy_43 (by decide) (by omega) (fun c11 => ?_) (fun c11 => ?_)
  · show V 61 [some (ZR 255), some (ZR order), some (ZI node), some (ZI moveTicks), some (ZI (σ (o1 + 3) node)), some (ZI (σ (o1 + 4) node)), some (ZI y34)] [] 284 σ
    refine zr_aload_n (pc := 61) hV dX1_priceBy_61 rfl rfl ?_
    refine zr_getR (pc := 62) hV 1 o1 dX1_priceBy_62 fX1_12 rfl rfl (zc_k255 zc_s255) (zc_pos zc_s255 rfl) (by omega) (zc_pos ko1 rfl).1 ?_
    refine zr_iload (pc := 65) hV dX1_priceBy_65 rfl ?_
    refine zr_callVp (pc := 67) hV [ZI (σ (o1 + 4) node)] (st := []) (c_X7_isLiteral (σ := σ) hσ o1 ko1 (σ (o1 + 4) node) (by omega)) dX1_priceBy_67 mX1_70 (zc_k256 ko1) (zc_pos ko1 rfl) (by decide) (Nat.le_of_ble_eq_true rfl) (Nat.le_refl _) (fun r67 hr67 pr67 => ?_)
    refine zr_if_eq (pc := 70) hV 90 dX1_priceBy_70 (by decide) (by omega) (fun c12 => ?_) (fun c12 => ?_)
    · show V 90 [some (ZR 255), some (ZR order), some (ZI node), some (ZI moveTicks), some (ZI (σ (o1 + 3) node)), some (ZI (σ (o1 + 4) node)), some (ZI y34)] [] 284 σ
      refine zr_ldc (pc := 90) (v := 1000000) hV 1000000 dX1_priceBy_90 kX1_86 (by decide) ?_
      exact zr_iret (pc := 92) hV dX1_priceBy_92 rfl rfl ⟨rfl, _, rfl, ⟨by decide, by decide⟩, trivial⟩
    · show V 73 [some (ZR 255), some (ZR order), some (ZI node), some (ZI moveTicks), some (ZI (σ (o1 + 3) node)), some (ZI (σ (o1 + 4) node)), some (ZI y34)] [] 284 σ
      refine zr_aload_n (pc := 73) hV dX1_priceBy_73 rfl rfl ?_
      refine zr_aload_n (pc := 74) hV dX1_priceBy_74 rfl rfl ?_
      refine zr_getR (pc := 75) hV 1 o1 dX1_priceBy_75 fX1_12 rfl rfl (zc_k255 zc_s255) (zc_pos zc_s255 rfl) (by omega) (zc_pos ko1 rfl).1 ?_
      refine zr_getR (pc := 78) hV 1 (o1 + 2) dX1_priceBy_78 fX1_73 rfl rfl (zc_k256 ko1) (zc_pos ko1 rfl) (zc_g256_1 hσ ko1) (zc_pos (zc_p256_2 ko1) rfl).1 ?_
      refine zr_iload (pc := 81) hV dX1_priceBy_81 rfl ?_
      refine zr_iald (pc := 83) hV dX1_priceBy_83 (zc_k258 (zc_p256_2 ko1)) (zc_pos (zc_p256_2 ko1) rfl) rfl (by omega) ?_
      have t13 := zc_ga258 hσ (zc_p256_2 ko1) (σ (o1 + 4) node)
      refine zr_callSp (pc := 84) hV [ZR order, ZI (σ (o1 + 2) (σ (o1 + 4) node))] (st := []) (c_X1_hasRoomFor (σ := σ) hσ order korder (σ (o1 + 2) (σ (o1 + 4) node)) (by omega)) dX1_priceBy_84 mX1_108 (by decide) (Nat.le_of_ble_eq_true rfl) (Nat.le_refl _) (fun r84 hr84 pr84 => ?_)
      refine zr_if_ne (pc := 87) hV 93 dX1_priceBy_87 (by decide) (by omega) (fun c14 => ?_) (fun c14 => ?_)
      · refine zr_sub (pc := 93) hV [some (ZR 255), some (ZR order), none, some (ZI moveTicks), some (ZI (σ (o1 + 3) node)), none, some (ZI y34)] (⟨rfl, rfl, rfl, rfl, rfl, trivial⟩) ?_
        exact J93 y34 (by omega)
      · show V 90 [some (ZR 255), some (ZR order), some (ZI node), some (ZI moveTicks), some (ZI (σ (o1 + 3) node)), some (ZI (σ (o1 + 4) node)), some (ZI y34)] [] 284 σ
        refine zr_ldc (pc := 90) (v := 1000000) hV 1000000 dX1_priceBy_90 kX1_86 (by decide) ?_
        exact zr_iret (pc := 92) hV dX1_priceBy_92 rfl rfl ⟨rfl, _, rfl, ⟨by decide, by decide⟩, trivial⟩
  · show V 46 [some (ZR 255), some (ZR order), some (ZI node), some (ZI moveTicks), some (ZI (σ (o1 + 3) node)), some (ZI (σ (o1 + 4) node)), some (ZI y34)] [] 284 σ
    refine zr_iload (pc := 46) hV dX1_priceBy_46 rfl ?_
    refine zr_aload_n (pc := 48) hV dX1_priceBy_48 rfl rfl ?_
    refine zr_getR (pc := 49) hV 5 272 dX1_priceBy_49 fX1_21 rfl rfl (zc_k255 zc_s255) (zc_pos zc_s255 rfl) (zc_g255_5 hσ zc_s255) (by decide) ?_
    refine zr_iload (pc := 52) hV dX1_priceBy_52 rfl ?_
    refine zr_iald (pc := 54) hV dX1_priceBy_54 (zc_k272 zc_s272) (zc_pos zc_s272 rfl) rfl (by omega) ?_
    have t15 := zc_ga272 hσ zc_s272 (σ (o1 + 4) node)
    refine zr_iadd (pc := 55) hV dX1_priceBy_55 ?_
    refine zr_any (pc := 56) hV (fun y56 hy56 _ => ?_)
    refine zr_istore (pc := 56) hV [some (ZR 255), some (ZR order), some (ZI node), some (ZI moveTicks), some (ZI (σ (o1 + 3) node)), some (ZI (σ (o1 + 4) node)), some (ZI y56)] dX1_priceBy_56 (by decide) rfl rfl ?_
    refine zr_goto (pc := 58) hV 93 dX1_priceBy_58 (by decide) ?_
    refine zr_sub (pc := 93) hV [some (ZR 255), some (ZR order), none, some (ZI moveTicks), some (ZI (σ (o1 + 3) node)), none, some (ZI y56)] (⟨rfl, rfl, rfl, rfl, rfl, trivial⟩) ?_
    exact J93 y56 (by omega)
set_option maxHeartbeats 800000 in
theorem c_X1_findSignPrice {σ : zq_S} (hσ : zc_T σ) (node : Int) (moveTicks : Int) (q0 : 0 ≤ node ∧ node ≤ 38) (q1 : zq_in moveTicks) : zq_C zc_w yX1_findSignPrice cX1_findSignPrice 6 (none) 4 88 284 284 [ZR 255, ZI node, ZI moveTicks] σ (zq_pv (fun τ => zc_T τ ∧ zc_Fr [(272, -1), (273, -1)] σ τ ∧ (True))) := by
  refine zq_C_of (by decide) (Nat.le_refl _) (Nat.le_of_ble_eq_true rfl) [some (ZR 255), some (ZI node), some (ZI moveTicks), none, none, none] rfl (fun V hV => ?_)
  have hFσ := zc_Fr_rf [(272, -1), (273, -1)] σ
  show V 0 [some (ZR 255), some (ZI node), some (ZI moveTicks), none, none, none] [] 284 σ
  refine zr_aload_n (pc := 0) hV dX1_findSignPrice_0 rfl rfl ?_
  refine zr_getR (pc := 1) hV 5 272 dX1_findSignPrice_1 fX1_21 rfl rfl (zc_k255 zc_s255) (zc_pos zc_s255 rfl) (zc_g255_5 hσ zc_s255) (by decide) ?_
  refine zr_iload_n (pc := 4) hV dX1_findSignPrice_4 rfl rfl ?_
  refine zr_ldc (pc := 5) (v := 1000000) hV 1000000 dX1_findSignPrice_5 kX1_86 (by decide) ?_
  refine zr_iast (pc := 7) hV dX1_findSignPrice_7 (zc_k272 zc_s272) (zc_pos zc_s272 rfl) rfl (by omega) (fun σ7 eσ7 => ?_)
  have hσ7 : zc_T σ7 := zc_ua272 eσ7 hσ zc_s272 (by omega)
  have hFσ7 := zc_Fa eσ7 zc_s272 rfl hFσ
  refine zr_aload_n (pc := 8) hV dX1_findSignPrice_8 rfl rfl ?_
  refine zr_getR (pc := 9) hV 6 273 dX1_findSignPrice_9 fX1_25 rfl rfl (zc_k255 zc_s255) (zc_pos zc_s255 rfl) (zc_g255_6 hσ7 zc_s255) (by decide) ?_
  refine zr_iload_n (pc := 12) hV dX1_findSignPrice_12 rfl rfl ?_
  refine zr_iconst (pc := 13) hV (-1) dX1_findSignPrice_13 rfl ?_
  refine zr_iast (pc := 14) hV dX1_findSignPrice_14 (zc_k273 zc_s273) (zc_pos zc_s273 rfl) rfl (by omega) (fun σ14 eσ14 => ?_)
  have hσ14 : zc_T σ14 := zc_ua273 eσ14 hσ7 zc_s273 (by omega)
  have hFσ14 := zc_Fa eσ14 zc_s273 rfl hFσ7
  refine zr_iconst (pc := 15) hV 0 dX1_findSignPrice_15 rfl ?_
  refine zr_istore_n (pc := 16) hV [some (ZR 255), some (ZI node), some (ZI moveTicks), some (ZI 0), none, none] dX1_findSignPrice_16 rfl (by decide) rfl rfl ?_
  have L17 : ∀ (fuel : Nat) (x3_17 : Int) (σ_17 : zq_S), (0 ≤ x3_17 ∧ x3_17 ≤ 20) → (zc_T σ_17) → (zc_Fr [(272, -1), (273, -1)] σ σ_17) → 20 - x3_17 < (fuel : Int) → V 17 [some (ZR 255), some (ZI node), some (ZI moveTicks), some (ZI x3_17), none, none] [] 284 σ_17 := by
    intro fuel
    induction fuel with
    | zero =>
      intro x3_17 σ_17 hx3_17 hσ_17 hFσ_17 hm17
      exfalso; omega
    | succ fuel ih =>
      intro x3_17 σ_17 hx3_17 hσ_17 hFσ_17 hm17
      have ih17 := ih
      show V 17 [some (ZR 255), some (ZI node), some (ZI moveTicks), some (ZI x3_17), none, none] [] 284 σ_17
      refine zr_iload_n (pc := 17) hV dX1_findSignPrice_17 rfl rfl ?_
      refine zr_aload_n (pc := 18) hV dX1_findSignPrice_18 rfl rfl ?_
      refine zr_getR (pc := 19) hV 0 3 dX1_findSignPrice_19 fX1_34 rfl rfl (zc_k255 zc_s255) (zc_pos zc_s255 rfl) (zc_g255_0 hσ_17 zc_s255) (by decide) ?_
      refine zr_getI (pc := 22) hV 3 dX1_findSignPrice_22 fX1_99 rfl rfl (zc_k3 zc_s3) (zc_pos zc_s3 rfl) ?_
      have t1 := zc_g3_3 hσ_17 zc_s3
      have t2 : σ_17 3 3 = σ 3 3 := hFσ_17 _ _ (zc_out_at zc_s3 rfl)
      refine zr_icmp_ge (pc := 25) hV 109 dX1_findSignPrice_25 (by decide) (by omega) (by omega) (fun c3 => ?_) (fun c3 => ?_)
      · show V 109 [some (ZR 255), some (ZI node), some (ZI moveTicks), some (ZI x3_17), none, none] [] 284 σ_17
        exact zr_vret (pc := 109) hV dX1_findSignPrice_109 rfl rfl ⟨rfl, hσ_17, hFσ_17, trivial⟩
      · show V 28 [some (ZR 255), some (ZI node), some (ZI moveTicks), some (ZI x3_17), none, none] [] 284 σ_17
        refine zr_aload_n (pc := 28) hV dX1_findSignPrice_28 rfl rfl ?_
        refine zr_getR (pc := 29) hV 0 3 dX1_findSignPrice_29 fX1_34 rfl rfl (zc_k255 zc_s255) (zc_pos zc_s255 rfl) (zc_g255_0 hσ_17 zc_s255) (by decide) ?_
        refine zr_getR (pc := 32) hV 6 10 dX1_findSignPrice_32 fX1_101 rfl rfl (zc_k3 zc_s3) (zc_pos zc_s3 rfl) (zc_g3_6 hσ_17 zc_s3) (by decide) ?_
        refine zr_iload_n (pc := 35) hV dX1_findSignPrice_35 rfl rfl ?_
        have ga36 : zc_kd (σ_17 10 x3_17) = 4 := zc_ga10 hσ_17 zc_s10 x3_17 (by omega) (by omega)
        refine zr_aald (pc := 36) hV dX1_findSignPrice_36 (zc_k10 zc_s10) (Or.inl rfl) (zc_pos zc_s10 rfl) rfl (by omega) (zc_pos ga36 rfl).1 ?_
        obtain ⟨o36, eo36⟩ : ∃ o, σ_17 10 x3_17 = o := ⟨_, rfl⟩
        rw [eo36] at ga36 ⊢
        have ko36 := ga36
        have po36 := zc_pos ko36 rfl
        show V 37 [some (ZR 255), some (ZI node), some (ZI moveTicks), some (ZI x3_17), none, none] [ZR o36] 284 σ_17
        refine zr_astore (pc := 37) hV [some (ZR 255), some (ZI node), some (ZI moveTicks), some (ZI x3_17), some (ZR o36), none] dX1_findSignPrice_37 (by decide) rfl rfl ?_
        refine zr_aload (pc := 39) hV dX1_findSignPrice_39 rfl ?_
        refine zr_getI (pc := 41) hV 14 dX1_findSignPrice_41 fX1_105 rfl rfl (zc_k4 ko36) (zc_pos ko36 rfl) ?_
        have t4 := zc_g4_14 hσ_17 ko36
        have t5 : σ_17 o36 14 = σ o36 14 := hFσ_17 _ _ (zc_out_at ko36 rfl)
        refine zr_iconst (pc := 44) hV 3 dX1_findSignPrice_44 rfl ?_
        refine zr_icmp_lt (pc := 45) hV 103 dX1_findSignPrice_45 (by decide) (by omega) ⟨by decide, by decide⟩ (fun c6 => ?_) (fun c6 => ?_)
        · show V 103 [some (ZR 255), some (ZI node), some (ZI moveTicks), some (ZI x3_17), some (ZR o36), none] [] 284 σ_17
          refine zr_iinc (pc := 103) hV [some (ZR 255), some (ZI node), some (ZI moveTicks), some (ZI (x3_17 + 1)), some (ZR o36), none] (x3_17 + 1) dX1_findSignPrice_103 rfl rfl (by decide) rfl rfl ?_
          refine zr_goto (pc := 106) hV 17 dX1_findSignPrice_106 (by decide) ?_
          refine zr_sub (pc := 17) hV [some (ZR 255), some (ZI node), some (ZI moveTicks), some (ZI (x3_17 + 1)), none, none] (⟨rfl, rfl, rfl, rfl, trivial⟩) ?_
          exact ih17 (x3_17 + 1) σ_17 (by omega) hσ_17 hFσ_17 (by omega)
        · show V 48 [some (ZR 255), some (ZI node), some (ZI moveTicks), some (ZI x3_17), some (ZR o36), none] [] 284 σ_17
          refine zr_aload (pc := 48) hV dX1_findSignPrice_48 rfl ?_
          refine zr_getR (pc := 50) hV 9 (o36 + 4) dX1_findSignPrice_50 fX1_112 rfl rfl (zc_k4 ko36) (zc_pos ko36 rfl) (zc_g4_9 hσ_17 ko36) (zc_pos (zc_p4_4 ko36) rfl).1 ?_
          refine zr_iconst (pc := 53) hV 0 dX1_findSignPrice_53 rfl ?_
          refine zr_iald (pc := 54) hV dX1_findSignPrice_54 (zc_k8 (zc_p4_4 ko36)) (zc_pos (zc_p4_4 ko36) rfl) rfl (by omega) ?_
          have t7 := zc_ga8 hσ_17 (zc_p4_4 ko36) 0
          have t8 : σ_17 (o36 + 4) 0 = σ (o36 + 4) 0 := hFσ_17 _ _ (zc_out_ar (zc_p4_4 ko36) rfl)
          refine zr_aload_n (pc := 55) hV dX1_findSignPrice_55 rfl rfl ?_
          have t9 : σ_17 255 1 = σ 255 1 := hFσ_17 _ _ (zc_out_at zc_s255 rfl)
          obtain ⟨o56, eo56⟩ : ∃ o, σ 255 1 = o := ⟨_, rfl⟩
          have ko56 : zc_kd o56 = 256 := eo56 ▸ zc_g255_1 hσ zc_s255
          have po56 := zc_pos ko56 rfl
          refine zr_getR (pc := 56) hV 1 o56 dX1_findSignPrice_56 fX1_12 rfl rfl (zc_k255 zc_s255) (zc_pos zc_s255 rfl) (by omega) (zc_pos ko56 rfl).1 ?_
          refine zr_getR (pc := 59) hV 0 (o56 + 1) dX1_findSignPrice_59 fX1_115 rfl rfl (zc_k256 ko56) (zc_pos ko56 rfl) (zc_g256_0 hσ_17 ko56) (zc_pos (zc_p256_1 ko56) rfl).1 ?_
          refine zr_iload_n (pc := 62) hV dX1_findSignPrice_62 rfl rfl ?_
          refine zr_iald (pc := 63) hV dX1_findSignPrice_63 (zc_k257 (zc_p256_1 ko56)) (zc_pos (zc_p256_1 ko56) rfl) rfl (by omega) ?_
          have t10 := zc_ga257 hσ_17 (zc_p256_1 ko56) node
          have t11 : σ_17 (o56 + 1) node = σ (o56 + 1) node := hFσ_17 _ _ (zc_out_ar (zc_p256_1 ko56) rfl)
          refine zr_icmp_ne (pc := 64) hV 103 dX1_findSignPrice_64 (by decide) (by omega) (by omega) (fun c12 => ?_) (fun c12 => ?_)
          · show V 103 [some (ZR 255), some (ZI node), some (ZI moveTicks), some (ZI x3_17), some (ZR o36), none] [] 284 σ_17
            refine zr_iinc (pc := 103) hV [some (ZR 255), some (ZI node), some (ZI moveTicks), some (ZI (x3_17 + 1)), some (ZR o36), none] (x3_17 + 1) dX1_findSignPrice_103 rfl rfl (by decide) rfl rfl ?_
            refine zr_goto (pc := 106) hV 17 dX1_findSignPrice_106 (by decide) ?_
            refine zr_sub (pc := 17) hV [some (ZR 255), some (ZI node), some (ZI moveTicks), some (ZI (x3_17 + 1)), none, none] (⟨rfl, rfl, rfl, rfl, trivial⟩) ?_
            exact ih17 (x3_17 + 1) σ_17 (by omega) hσ_17 hFσ_17 (by omega)
          · show V 67 [some (ZR 255), some (ZI node), some (ZI moveTicks), some (ZI x3_17), some (ZR o36), none] [] 284 σ_17
            refine zr_aload_n (pc := 67) hV dX1_findSignPrice_67 rfl rfl ?_
            refine zr_aload (pc := 68) hV dX1_findSignPrice_68 rfl ?_
            refine zr_iload_n (pc := 70) hV dX1_findSignPrice_70 rfl rfl ?_
            refine zr_iload_n (pc := 71) hV dX1_findSignPrice_71 rfl rfl ?_
            refine zr_callVp (pc := 72) hV [ZR o36, ZI node, ZI moveTicks] (st := []) (c_X1_priceBy (σ := σ_17) hσ_17 o36 ko36 node moveTicks (by omega) (by omega)) dX1_findSignPrice_72 mX1_118 (zc_k255 zc_s255) (zc_pos zc_s255 rfl) (by decide) (Nat.le_of_ble_eq_true rfl) (Nat.le_refl _) (fun r72 hr72 pr72 => ?_)
            refine zr_istore (pc := 75) hV [some (ZR 255), some (ZI node), some (ZI moveTicks), some (ZI x3_17), some (ZR o36), some (ZI r72)] dX1_findSignPrice_75 (by decide) rfl rfl ?_
            refine zr_iload (pc := 77) hV dX1_findSignPrice_77 rfl ?_
            refine zr_aload_n (pc := 79) hV dX1_findSignPrice_79 rfl rfl ?_
            refine zr_getR (pc := 80) hV 5 272 dX1_findSignPrice_80 fX1_21 rfl rfl (zc_k255 zc_s255) (zc_pos zc_s255 rfl) (zc_g255_5 hσ_17 zc_s255) (by decide) ?_
            refine zr_iload_n (pc := 83) hV dX1_findSignPrice_83 rfl rfl ?_
            refine zr_iald (pc := 84) hV dX1_findSignPrice_84 (zc_k272 zc_s272) (zc_pos zc_s272 rfl) rfl (by omega) ?_
            have t13 := zc_ga272 hσ_17 zc_s272 node
            refine zr_icmp_ge (pc := 85) hV 103 dX1_findSignPrice_85 (by decide) (by omega) (by omega) (fun c14 => ?_) (fun c14 => ?_)
            · show V 103 [some (ZR 255), some (ZI node), some (ZI moveTicks), some (ZI x3_17), some (ZR o36), some (ZI r72)] [] 284 σ_17
              refine zr_iinc (pc := 103) hV [some (ZR 255), some (ZI node), some (ZI moveTicks), some (ZI (x3_17 + 1)), some (ZR o36), some (ZI r72)] (x3_17 + 1) dX1_findSignPrice_103 rfl rfl (by decide) rfl rfl ?_
              refine zr_goto (pc := 106) hV 17 dX1_findSignPrice_106 (by decide) ?_
              refine zr_sub (pc := 17) hV [some (ZR 255), some (ZI node), some (ZI moveTicks), some (ZI (x3_17 + 1)), none, none] (⟨rfl, rfl, rfl, rfl, trivial⟩) ?_
              exact ih17 (x3_17 + 1) σ_17 (by omega) hσ_17 hFσ_17 (by omega)
            · show V 88 [some (ZR 255), some (ZI node), some (ZI moveTicks), some (ZI x3_17), some (ZR o36), some (ZI r72)] [] 284 σ_17
              refine zr_aload_n (pc := 88) hV dX1_findSignPrice_88 rfl rfl ?_
              refine zr_getR (pc := 89) hV 5 272 dX1_findSignPrice_89 fX1_21 rfl rfl (zc_k255 zc_s255) (zc_pos zc_s255 rfl) (zc_g255_5 hσ_17 zc_s255) (by decide) ?_
              refine zr_iload_n (pc := 92) hV dX1_findSignPrice_92 rfl rfl ?_
              refine zr_iload (pc := 93) hV dX1_findSignPrice_93 rfl ?_
              refine zr_iast (pc := 95) hV dX1_findSignPrice_95 (zc_k272 zc_s272) (zc_pos zc_s272 rfl) rfl (by omega) (fun σ95 eσ95 => ?_)
              have hσ95 : zc_T σ95 := zc_ua272 eσ95 hσ_17 zc_s272 (by omega)
              have hFσ95 := zc_Fa eσ95 zc_s272 rfl hFσ_17
              refine zr_aload_n (pc := 96) hV dX1_findSignPrice_96 rfl rfl ?_
              refine zr_getR (pc := 97) hV 6 273 dX1_findSignPrice_97 fX1_25 rfl rfl (zc_k255 zc_s255) (zc_pos zc_s255 rfl) (zc_g255_6 hσ95 zc_s255) (by decide) ?_
              refine zr_iload_n (pc := 100) hV dX1_findSignPrice_100 rfl rfl ?_
              refine zr_iload_n (pc := 101) hV dX1_findSignPrice_101 rfl rfl ?_
              refine zr_iast (pc := 102) hV dX1_findSignPrice_102 (zc_k273 zc_s273) (zc_pos zc_s273 rfl) rfl (by omega) (fun σ102 eσ102 => ?_)
              have hσ102 : zc_T σ102 := zc_ua273 eσ102 hσ95 zc_s273 (by omega)
              have hFσ102 := zc_Fa eσ102 zc_s273 rfl hFσ95
              show V 103 [some (ZR 255), some (ZI node), some (ZI moveTicks), some (ZI x3_17), some (ZR o36), some (ZI r72)] [] 284 σ102
              refine zr_iinc (pc := 103) hV [some (ZR 255), some (ZI node), some (ZI moveTicks), some (ZI (x3_17 + 1)), some (ZR o36), some (ZI r72)] (x3_17 + 1) dX1_findSignPrice_103 rfl rfl (by decide) rfl rfl ?_
              refine zr_goto (pc := 106) hV 17 dX1_findSignPrice_106 (by decide) ?_
              refine zr_sub (pc := 17) hV [some (ZR 255), some (ZI node), some (ZI moveTicks), some (ZI (x3_17 + 1)), none, none] (⟨rfl, rfl, rfl, rfl, trivial⟩) ?_
              exact ih17 (x3_17 + 1) σ102 (by omega) hσ102 hFσ102 (by omega)
  exact L17 (20 - (0 : Int) + 1 : Int).toNat 0 σ14 (by omega) hσ14 hFσ14 (by omega)
set_option maxHeartbeats 800000 in
theorem c_X1_priceOfSum {σ : zq_S} (hσ : zc_T σ)   (Nσ : zc_N σ) : zq_C zc_w yX1_priceOfSum cX1_priceOfSum 3 (some .int) 5 113 284 284 [ZR 255] σ (zq_pi (fun r τ => zc_T τ ∧ zc_Fr [(272, -1), (273, -1)] σ τ ∧ (True) ∧ zc_N τ)) := by
  refine zq_C_of (by decide) (Nat.le_refl _) (Nat.le_of_ble_eq_true rfl) [some (ZR 255), none, none] rfl (fun V hV => ?_)
  have hFσ := zc_Fr_rf [(272, -1), (273, -1)] σ
  obtain ⟨told, etold⟩ : ∃ o, σ 255 1 = o := ⟨_, rfl⟩
  have ktold : zc_kd told = 256 := etold ▸ zc_g255_1 hσ zc_s255
  have potold := zc_pos ktold rfl
  have hN := Nσ
  unfold zc_N at hN
  rw [etold] at hN
  show V 0 [some (ZR 255), none, none] [] 284 σ
  refine zr_aload_n (pc := 0) hV dX1_priceOfSum_0 rfl rfl ?_
  refine zr_aload_n (pc := 1) hV dX1_priceOfSum_1 rfl rfl ?_
  refine zr_callVp (pc := 2) hV [] (st := [ZR 255]) (c_X1_leastMove (σ := σ) hσ) dX1_priceOfSum_2 mX1_56 (zc_k255 zc_s255) (zc_pos zc_s255 rfl) (by decide) (Nat.le_of_ble_eq_true rfl) (Nat.le_refl _) (fun r2 hr2 pr2 => ?_)
  refine zr_callVp (pc := 5) hV [ZI r2] (st := []) (c_X1_ticksOf (σ := σ) hσ r2 (by omega)) dX1_priceOfSum_5 mX1_59 (zc_k255 zc_s255) (zc_pos zc_s255 rfl) (by decide) (Nat.le_of_ble_eq_true rfl) (Nat.le_refl _) (fun r5 hr5 pr5 => ?_)
  refine zr_istore_n (pc := 8) hV [some (ZR 255), some (ZI r5), none] dX1_priceOfSum_8 rfl (by decide) rfl rfl ?_
  refine zr_iconst (pc := 9) hV 0 dX1_priceOfSum_9 rfl ?_
  refine zr_istore_n (pc := 10) hV [some (ZR 255), some (ZI r5), some (ZI 0)] dX1_priceOfSum_10 rfl (by decide) rfl rfl ?_
  have L11 : ∀ (fuel : Nat) (x2_11 : Int) (σ_11 : zq_S), (0 ≤ x2_11 ∧ x2_11 ≤ 39) → (zc_T σ_11) → (zc_Fr [(272, -1), (273, -1)] σ σ_11) → (zc_N σ_11) → 39 - x2_11 < (fuel : Int) → V 11 [some (ZR 255), some (ZI r5), some (ZI x2_11)] [] 284 σ_11 := by
    intro fuel
    induction fuel with
    | zero =>
      intro x2_11 σ_11 hx2_11 hσ_11 hFσ_11 Nσ_11 hm11
      exfalso; omega
    | succ fuel ih =>
      intro x2_11 σ_11 hx2_11 hσ_11 hFσ_11 Nσ_11 hm11
      have ih11 := ih
      show V 11 [some (ZR 255), some (ZI r5), some (ZI x2_11)] [] 284 σ_11
      refine zr_iload_n (pc := 11) hV dX1_priceOfSum_11 rfl rfl ?_
      refine zr_aload_n (pc := 12) hV dX1_priceOfSum_12 rfl rfl ?_
      have t1 : σ_11 255 1 = σ 255 1 := hFσ_11 _ _ (zc_out_at zc_s255 rfl)
      refine zr_getR (pc := 13) hV 1 told dX1_priceOfSum_13 fX1_12 rfl rfl (zc_k255 zc_s255) (zc_pos zc_s255 rfl) (by omega) (zc_pos ktold rfl).1 ?_
      refine zr_getI (pc := 16) hV 5 dX1_priceOfSum_16 fX1_63 rfl rfl (zc_k256 ktold) (zc_pos ktold rfl) ?_
      have t2 := zc_g256_5 hσ_11 ktold
      have t3 : σ_11 told 5 = σ told 5 := hFσ_11 _ _ (zc_out_at ktold rfl)
      refine zr_icmp_ge (pc := 19) hV 111 dX1_priceOfSum_19 (by decide) (by omega) (by omega) (fun c4 => ?_) (fun c4 => ?_)
      · show V 111 [some (ZR 255), some (ZI r5), some (ZI x2_11)] [] 284 σ_11
        refine zr_aload_n (pc := 111) hV dX1_priceOfSum_111 rfl rfl ?_
        have t5 : σ_11 255 1 = σ 255 1 := hFσ_11 _ _ (zc_out_at zc_s255 rfl)
        refine zr_getR (pc := 112) hV 1 told dX1_priceOfSum_112 fX1_12 rfl rfl (zc_k255 zc_s255) (zc_pos zc_s255 rfl) (by omega) (zc_pos ktold rfl).1 ?_
        refine zr_aload_n (pc := 115) hV dX1_priceOfSum_115 rfl rfl ?_
        have t6 : σ_11 255 1 = σ 255 1 := hFσ_11 _ _ (zc_out_at zc_s255 rfl)
        refine zr_getR (pc := 116) hV 1 told dX1_priceOfSum_116 fX1_12 rfl rfl (zc_k255 zc_s255) (zc_pos zc_s255 rfl) (by omega) (zc_pos ktold rfl).1 ?_
        refine zr_callVp (pc := 119) hV [] (st := [ZR told]) (c_X7_root (σ := σ_11) hσ_11 told ktold) dX1_priceOfSum_119 mX1_83 (zc_k256 ktold) (zc_pos ktold rfl) (by decide) (Nat.le_of_ble_eq_true rfl) (Nat.le_refl _) (fun r119 hr119 pr119 => ?_)
        have t7 := zc_g256_5 hσ_11 ktold
        have t8 : σ_11 told 5 = σ told 5 := hFσ_11 _ _ (zc_out_at ktold rfl)
        refine zr_callVp (pc := 122) hV [ZI r119] (st := []) (c_X7_isVariable (σ := σ_11) hσ_11 told ktold r119 (by omega)) dX1_priceOfSum_122 mX1_66 (zc_k256 ktold) (zc_pos ktold rfl) (by decide) (Nat.le_of_ble_eq_true rfl) (Nat.le_refl _) (fun r122 hr122 pr122 => ?_)
        refine zr_if_eq (pc := 125) hV 132 dX1_priceOfSum_125 (by decide) (by omega) (fun c9 => ?_) (fun c9 => ?_)
        · show V 132 [some (ZR 255), some (ZI r5), some (ZI x2_11)] [] 284 σ_11
          refine zr_aload_n (pc := 132) hV dX1_priceOfSum_132 rfl rfl ?_
          refine zr_getR (pc := 133) hV 5 272 dX1_priceOfSum_133 fX1_21 rfl rfl (zc_k255 zc_s255) (zc_pos zc_s255 rfl) (zc_g255_5 hσ_11 zc_s255) (by decide) ?_
          refine zr_aload_n (pc := 136) hV dX1_priceOfSum_136 rfl rfl ?_
          have t10 : σ_11 255 1 = σ 255 1 := hFσ_11 _ _ (zc_out_at zc_s255 rfl)
          refine zr_getR (pc := 137) hV 1 told dX1_priceOfSum_137 fX1_12 rfl rfl (zc_k255 zc_s255) (zc_pos zc_s255 rfl) (by omega) (zc_pos ktold rfl).1 ?_
          refine zr_callVp (pc := 140) hV [] (st := [ZR 272]) (c_X7_root (σ := σ_11) hσ_11 told ktold) dX1_priceOfSum_140 mX1_83 (zc_k256 ktold) (zc_pos ktold rfl) (by decide) (Nat.le_of_ble_eq_true rfl) (Nat.le_refl _) (fun r140 hr140 pr140 => ?_)
          have t11 := zc_g256_5 hσ_11 ktold
          have t12 : σ_11 told 5 = σ told 5 := hFσ_11 _ _ (zc_out_at ktold rfl)
          refine zr_iald (pc := 143) hV dX1_priceOfSum_143 (zc_k272 zc_s272) (zc_pos zc_s272 rfl) rfl (by omega) ?_
          have t13 := zc_ga272 hσ_11 zc_s272 r140
          show V 144 [some (ZR 255), some (ZI r5), some (ZI x2_11)] [ZI (σ_11 272 r140)] 284 σ_11
          refine zr_istore_n (pc := 144) hV [some (ZR 255), some (ZI r5), some (ZI (σ_11 272 r140))] dX1_priceOfSum_144 rfl (by decide) rfl rfl ?_
          refine zr_iload_n (pc := 145) hV dX1_priceOfSum_145 rfl rfl ?_
          refine zr_ldc (pc := 146) (v := 1000000) hV 1000000 dX1_priceOfSum_146 kX1_86 (by decide) ?_
          refine zr_icmp_ge (pc := 148) hV 155 dX1_priceOfSum_148 (by decide) (by omega) ⟨by decide, by decide⟩ (fun c14 => ?_) (fun c14 => ?_)
          · show V 155 [some (ZR 255), some (ZI r5), some (ZI (σ_11 272 r140))] [] 284 σ_11
            refine zr_bipush (pc := 155) hV (-4) dX1_priceOfSum_155 (by decide) ?_
            show V 157 [some (ZR 255), some (ZI r5), some (ZI (σ_11 272 r140))] [ZI (-4)] 284 σ_11
            exact zr_iret (pc := 157) hV dX1_priceOfSum_157 rfl rfl ⟨_, rfl, ⟨by decide, by decide⟩, hσ_11, hFσ_11, trivial, Nσ_11⟩
          · show V 151 [some (ZR 255), some (ZI r5), some (ZI (σ_11 272 r140))] [] 284 σ_11
            refine zr_iload_n (pc := 151) hV dX1_priceOfSum_151 rfl rfl ?_
            refine zr_goto (pc := 152) hV 157 dX1_priceOfSum_152 (by decide) ?_
            show V 157 [some (ZR 255), some (ZI r5), some (ZI (σ_11 272 r140))] [ZI (σ_11 272 r140)] 284 σ_11
            exact zr_iret (pc := 157) hV dX1_priceOfSum_157 rfl rfl ⟨_, rfl, (by omega), hσ_11, hFσ_11, trivial, Nσ_11⟩
        · show V 128 [some (ZR 255), some (ZI r5), some (ZI x2_11)] [] 284 σ_11
          refine zr_iload_n (pc := 128) hV dX1_priceOfSum_128 rfl rfl ?_
          refine zr_goto (pc := 129) hV 144 dX1_priceOfSum_129 (by decide) ?_
          show V 144 [some (ZR 255), some (ZI r5), some (ZI x2_11)] [ZI r5] 284 σ_11
          refine zr_istore_n (pc := 144) hV [some (ZR 255), some (ZI r5), some (ZI r5)] dX1_priceOfSum_144 rfl (by decide) rfl rfl ?_
          refine zr_iload_n (pc := 145) hV dX1_priceOfSum_145 rfl rfl ?_
          refine zr_ldc (pc := 146) (v := 1000000) hV 1000000 dX1_priceOfSum_146 kX1_86 (by decide) ?_
          refine zr_icmp_ge (pc := 148) hV 155 dX1_priceOfSum_148 (by decide) (by omega) ⟨by decide, by decide⟩ (fun c15 => ?_) (fun c15 => ?_)
          · show V 155 [some (ZR 255), some (ZI r5), some (ZI r5)] [] 284 σ_11
            refine zr_bipush (pc := 155) hV (-4) dX1_priceOfSum_155 (by decide) ?_
            show V 157 [some (ZR 255), some (ZI r5), some (ZI r5)] [ZI (-4)] 284 σ_11
            exact zr_iret (pc := 157) hV dX1_priceOfSum_157 rfl rfl ⟨_, rfl, ⟨by decide, by decide⟩, hσ_11, hFσ_11, trivial, Nσ_11⟩
          · show V 151 [some (ZR 255), some (ZI r5), some (ZI r5)] [] 284 σ_11
            refine zr_iload_n (pc := 151) hV dX1_priceOfSum_151 rfl rfl ?_
            refine zr_goto (pc := 152) hV 157 dX1_priceOfSum_152 (by decide) ?_
            show V 157 [some (ZR 255), some (ZI r5), some (ZI r5)] [ZI r5] 284 σ_11
            exact zr_iret (pc := 157) hV dX1_priceOfSum_157 rfl rfl ⟨_, rfl, (by omega), hσ_11, hFσ_11, trivial, Nσ_11⟩
      · show V 22 [some (ZR 255), some (ZI r5), some (ZI x2_11)] [] 284 σ_11
        refine zr_aload_n (pc := 22) hV dX1_priceOfSum_22 rfl rfl ?_
        have t16 : σ_11 255 1 = σ 255 1 := hFσ_11 _ _ (zc_out_at zc_s255 rfl)
        refine zr_getR (pc := 23) hV 1 told dX1_priceOfSum_23 fX1_12 rfl rfl (zc_k255 zc_s255) (zc_pos zc_s255 rfl) (by omega) (zc_pos ktold rfl).1 ?_
        refine zr_iload_n (pc := 26) hV dX1_priceOfSum_26 rfl rfl ?_
        refine zr_callVp (pc := 27) hV [ZI x2_11] (st := []) (c_X7_isVariable (σ := σ_11) hσ_11 told ktold x2_11 (by omega)) dX1_priceOfSum_27 mX1_66 (zc_k256 ktold) (zc_pos ktold rfl) (by decide) (Nat.le_of_ble_eq_true rfl) (Nat.le_refl _) (fun r27 hr27 pr27 => ?_)
        refine zr_if_eq (pc := 30) hV 50 dX1_priceOfSum_30 (by decide) (by omega) (fun c17 => ?_) (fun c17 => ?_)
        · show V 50 [some (ZR 255), some (ZI r5), some (ZI x2_11)] [] 284 σ_11
          refine zr_aload_n (pc := 50) hV dX1_priceOfSum_50 rfl rfl ?_
          have t18 : σ_11 255 1 = σ 255 1 := hFσ_11 _ _ (zc_out_at zc_s255 rfl)
          refine zr_getR (pc := 51) hV 1 told dX1_priceOfSum_51 fX1_12 rfl rfl (zc_k255 zc_s255) (zc_pos zc_s255 rfl) (by omega) (zc_pos ktold rfl).1 ?_
          refine zr_iload_n (pc := 54) hV dX1_priceOfSum_54 rfl rfl ?_
          refine zr_callVp (pc := 55) hV [ZI x2_11] (st := []) (c_X7_isLiteral (σ := σ_11) hσ_11 told ktold x2_11 (by omega)) dX1_priceOfSum_55 mX1_70 (zc_k256 ktold) (zc_pos ktold rfl) (by decide) (Nat.le_of_ble_eq_true rfl) (Nat.le_refl _) (fun r55 hr55 pr55 => ?_)
          refine zr_if_eq (pc := 58) hV 99 dX1_priceOfSum_58 (by decide) (by omega) (fun c19 => ?_) (fun c19 => ?_)
          · show V 99 [some (ZR 255), some (ZI r5), some (ZI x2_11)] [] 284 σ_11
            refine zr_aload_n (pc := 99) hV dX1_priceOfSum_99 rfl rfl ?_
            refine zr_iload_n (pc := 100) hV dX1_priceOfSum_100 rfl rfl ?_
            refine zr_iload_n (pc := 101) hV dX1_priceOfSum_101 rfl rfl ?_
            refine zr_callVv (pc := 102) hV [ZI x2_11, ZI r5] (st := []) (c_X1_findSignPrice (σ := σ_11) hσ_11 x2_11 r5 (by omega) (by omega)) dX1_priceOfSum_102 mX1_79 (zc_k255 zc_s255) (zc_pos zc_s255 rfl) (by decide) (Nat.le_of_ble_eq_true rfl) (Nat.le_refl _) (fun σ102 pσ102 => ?_)
            obtain ⟨hσ102, hfσ102, pσ102⟩ := pσ102
            have hFσ102 := zc_Fc hfσ102 rfl hFσ_11
            have Nσ102 : zc_N σ102 := zc_N_fr hfσ102 rfl hσ_11 Nσ_11
            show V 105 [some (ZR 255), some (ZI r5), some (ZI x2_11)] [] 284 σ102
            refine zr_iinc (pc := 105) hV [some (ZR 255), some (ZI r5), some (ZI (x2_11 + 1))] (x2_11 + 1) dX1_priceOfSum_105 rfl rfl (by decide) rfl rfl ?_
            refine zr_goto (pc := 108) hV 11 dX1_priceOfSum_108 (by decide) ?_
            exact ih11 (x2_11 + 1) σ102 (by omega) hσ102 hFσ102 Nσ102 (by omega)
          · show V 61 [some (ZR 255), some (ZI r5), some (ZI x2_11)] [] 284 σ_11
            refine zr_aload_n (pc := 61) hV dX1_priceOfSum_61 rfl rfl ?_
            refine zr_getR (pc := 62) hV 6 273 dX1_priceOfSum_62 fX1_25 rfl rfl (zc_k255 zc_s255) (zc_pos zc_s255 rfl) (zc_g255_6 hσ_11 zc_s255) (by decide) ?_
            refine zr_iload_n (pc := 65) hV dX1_priceOfSum_65 rfl rfl ?_
            refine zr_aload_n (pc := 66) hV dX1_priceOfSum_66 rfl rfl ?_
            refine zr_aload_n (pc := 67) hV dX1_priceOfSum_67 rfl rfl ?_
            have t20 : σ_11 255 1 = σ 255 1 := hFσ_11 _ _ (zc_out_at zc_s255 rfl)
            refine zr_getR (pc := 68) hV 1 told dX1_priceOfSum_68 fX1_12 rfl rfl (zc_k255 zc_s255) (zc_pos zc_s255 rfl) (by omega) (zc_pos ktold rfl).1 ?_
            refine zr_getR (pc := 71) hV 1 (told + 2) dX1_priceOfSum_71 fX1_73 rfl rfl (zc_k256 ktold) (zc_pos ktold rfl) (zc_g256_1 hσ_11 ktold) (zc_pos (zc_p256_2 ktold) rfl).1 ?_
            refine zr_iload_n (pc := 74) hV dX1_priceOfSum_74 rfl rfl ?_
            refine zr_iald (pc := 75) hV dX1_priceOfSum_75 (zc_k258 (zc_p256_2 ktold)) (zc_pos (zc_p256_2 ktold) rfl) rfl (by omega) ?_
            have t21 := zc_ga258 hσ_11 (zc_p256_2 ktold) x2_11
            have t22 : σ_11 (told + 2) x2_11 = σ (told + 2) x2_11 := hFσ_11 _ _ (zc_out_ar (zc_p256_2 ktold) rfl)
            refine zr_callVp (pc := 76) hV [ZI (σ_11 (told + 2) x2_11)] (st := [ZI x2_11, ZR 273]) (c_X1_leastLoad (σ := σ_11) hσ_11 (σ_11 (told + 2) x2_11) (by omega)) dX1_priceOfSum_76 mX1_76 (zc_k255 zc_s255) (zc_pos zc_s255 rfl) (by decide) (Nat.le_of_ble_eq_true rfl) (Nat.le_refl _) (fun r76 hr76 pr76 => ?_)
            refine zr_iast (pc := 79) hV dX1_priceOfSum_79 (zc_k273 zc_s273) (zc_pos zc_s273 rfl) rfl (by omega) (fun σ79 eσ79 => ?_)
            have hσ79 : zc_T σ79 := zc_ua273 eσ79 hσ_11 zc_s273 (by omega)
            have hFσ79 := zc_Fa eσ79 zc_s273 rfl hFσ_11
            have Nσ79 : zc_N σ79 := zc_N_fr (zc_Fa eσ79 zc_s273 rfl (zc_Fr_rf [(273, -1)] _)) rfl hσ_11 Nσ_11
            refine zr_aload_n (pc := 80) hV dX1_priceOfSum_80 rfl rfl ?_
            refine zr_getR (pc := 81) hV 5 272 dX1_priceOfSum_81 fX1_21 rfl rfl (zc_k255 zc_s255) (zc_pos zc_s255 rfl) (zc_g255_5 hσ79 zc_s255) (by decide) ?_
            refine zr_iload_n (pc := 84) hV dX1_priceOfSum_84 rfl rfl ?_
            refine zr_aload_n (pc := 85) hV dX1_priceOfSum_85 rfl rfl ?_
            refine zr_aload_n (pc := 86) hV dX1_priceOfSum_86 rfl rfl ?_
            refine zr_getR (pc := 87) hV 6 273 dX1_priceOfSum_87 fX1_25 rfl rfl (zc_k255 zc_s255) (zc_pos zc_s255 rfl) (zc_g255_6 hσ79 zc_s255) (by decide) ?_
            refine zr_iload_n (pc := 90) hV dX1_priceOfSum_90 rfl rfl ?_
            refine zr_iald (pc := 91) hV dX1_priceOfSum_91 (zc_k273 zc_s273) (zc_pos zc_s273 rfl) rfl (by omega) ?_
            have t23 := zc_ga273 hσ79 zc_s273 x2_11
            have t24 : σ79 273 x2_11 = r76 := by rw [eσ79]; exact zq_up_same _ _ _ _
            refine zr_callVp (pc := 92) hV [ZI (σ79 273 x2_11)] (st := [ZI x2_11, ZR 272]) (c_X1_ticksOf (σ := σ79) hσ79 (σ79 273 x2_11) (by omega)) dX1_priceOfSum_92 mX1_59 (zc_k255 zc_s255) (zc_pos zc_s255 rfl) (by decide) (Nat.le_of_ble_eq_true rfl) (Nat.le_refl _) (fun r92 hr92 pr92 => ?_)
            refine zr_iast (pc := 95) hV dX1_priceOfSum_95 (zc_k272 zc_s272) (zc_pos zc_s272 rfl) rfl (by omega) (fun σ95 eσ95 => ?_)
            have hσ95 : zc_T σ95 := zc_ua272 eσ95 hσ79 zc_s272 (by omega)
            have hFσ95 := zc_Fa eσ95 zc_s272 rfl hFσ79
            have Nσ95 : zc_N σ95 := zc_N_fr (zc_Fa eσ95 zc_s272 rfl (zc_Fr_rf [(272, -1)] _)) rfl hσ79 Nσ79
            refine zr_goto (pc := 96) hV 105 dX1_priceOfSum_96 (by decide) ?_
            show V 105 [some (ZR 255), some (ZI r5), some (ZI x2_11)] [] 284 σ95
            refine zr_iinc (pc := 105) hV [some (ZR 255), some (ZI r5), some (ZI (x2_11 + 1))] (x2_11 + 1) dX1_priceOfSum_105 rfl rfl (by decide) rfl rfl ?_
            refine zr_goto (pc := 108) hV 11 dX1_priceOfSum_108 (by decide) ?_
            exact ih11 (x2_11 + 1) σ95 (by omega) hσ95 hFσ95 Nσ95 (by omega)
        · show V 33 [some (ZR 255), some (ZI r5), some (ZI x2_11)] [] 284 σ_11
          refine zr_aload_n (pc := 33) hV dX1_priceOfSum_33 rfl rfl ?_
          refine zr_getR (pc := 34) hV 5 272 dX1_priceOfSum_34 fX1_21 rfl rfl (zc_k255 zc_s255) (zc_pos zc_s255 rfl) (zc_g255_5 hσ_11 zc_s255) (by decide) ?_
          refine zr_iload_n (pc := 37) hV dX1_priceOfSum_37 rfl rfl ?_
          refine zr_iconst (pc := 38) hV 0 dX1_priceOfSum_38 rfl ?_
          refine zr_iast (pc := 39) hV dX1_priceOfSum_39 (zc_k272 zc_s272) (zc_pos zc_s272 rfl) rfl (by omega) (fun σ39 eσ39 => ?_)
          have hσ39 : zc_T σ39 := zc_ua272 eσ39 hσ_11 zc_s272 (by omega)
          have hFσ39 := zc_Fa eσ39 zc_s272 rfl hFσ_11
          have Nσ39 : zc_N σ39 := zc_N_fr (zc_Fa eσ39 zc_s272 rfl (zc_Fr_rf [(272, -1)] _)) rfl hσ_11 Nσ_11
          refine zr_aload_n (pc := 40) hV dX1_priceOfSum_40 rfl rfl ?_
          refine zr_getR (pc := 41) hV 6 273 dX1_priceOfSum_41 fX1_25 rfl rfl (zc_k255 zc_s255) (zc_pos zc_s255 rfl) (zc_g255_6 hσ39 zc_s255) (by decide) ?_
          refine zr_iload_n (pc := 44) hV dX1_priceOfSum_44 rfl rfl ?_
          refine zr_iconst (pc := 45) hV (-1) dX1_priceOfSum_45 rfl ?_
          refine zr_iast (pc := 46) hV dX1_priceOfSum_46 (zc_k273 zc_s273) (zc_pos zc_s273 rfl) rfl (by omega) (fun σ46 eσ46 => ?_)
          have hσ46 : zc_T σ46 := zc_ua273 eσ46 hσ39 zc_s273 (by omega)
          have hFσ46 := zc_Fa eσ46 zc_s273 rfl hFσ39
          have Nσ46 : zc_N σ46 := zc_N_fr (zc_Fa eσ46 zc_s273 rfl (zc_Fr_rf [(273, -1)] _)) rfl hσ39 Nσ39
          refine zr_goto (pc := 47) hV 105 dX1_priceOfSum_47 (by decide) ?_
          show V 105 [some (ZR 255), some (ZI r5), some (ZI x2_11)] [] 284 σ46
          refine zr_iinc (pc := 105) hV [some (ZR 255), some (ZI r5), some (ZI (x2_11 + 1))] (x2_11 + 1) dX1_priceOfSum_105 rfl rfl (by decide) rfl rfl ?_
          refine zr_goto (pc := 108) hV 11 dX1_priceOfSum_108 (by decide) ?_
          exact ih11 (x2_11 + 1) σ46 (by omega) hσ46 hFσ46 Nσ46 (by omega)
  exact L11 (39 - (0 : Int) + 1 : Int).toNat 0 σ (by omega) hσ hFσ Nσ (by omega)
