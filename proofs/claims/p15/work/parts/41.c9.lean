set_option maxHeartbeats 800000 in
theorem c_X1_readSum {σ : zq_S} (hσ : zc_T σ)   (Uσ : zc_U σ) : zq_C zc_w yX1_readSum cX1_readSum 3 (some .boolean) 4 94 284 284 [ZR 255, ZR 1] σ (zq_pi (fun r τ => zc_T τ ∧ zc_Fr [(1, 2), (1, 3), (255, 1), (255, 2), (255, 3), (256, 5), (256, 6), (256, 9), (257, -1), (258, -1), (259, -1), (260, -1), (262, -1), (263, -1)] σ τ ∧ ((0 ≤ r ∧ r ≤ 1)) ∧ zc_U τ)) := by
  refine zq_C_of (by decide) (Nat.le_refl _) (Nat.le_of_ble_eq_true rfl) [some (ZR 255), some (ZR 1), none] rfl (fun V hV => ?_)
  have hFσ := zc_Fr_rf [(1, 2), (1, 3), (255, 1), (255, 2), (255, 3), (256, 5), (256, 6), (256, 9), (257, -1), (258, -1), (259, -1), (260, -1), (262, -1), (263, -1)] σ
  show V 0 [some (ZR 255), some (ZR 1), none] [] 284 σ
  refine zr_aload_n (pc := 0) hV dX1_readSum_0 rfl rfl ?_
  obtain ⟨o1, eo1⟩ : ∃ o, σ 255 2 = o := ⟨_, rfl⟩
  have ko1 : zc_kd o1 = 256 := eo1 ▸ zc_g255_2 hσ zc_s255
  have po1 := zc_pos ko1 rfl
  refine zr_getR (pc := 1) hV 2 o1 dX1_readSum_1 fX1_18 rfl rfl (zc_k255 zc_s255) (zc_pos zc_s255 rfl) (by omega) (zc_pos ko1 rfl).1 ?_
  refine zr_aload_n (pc := 4) hV dX1_readSum_4 rfl rfl ?_
  refine zr_aload_n (pc := 5) hV dX1_readSum_5 rfl rfl ?_
  refine zr_getI (pc := 6) hV 4 dX1_readSum_6 fX1_38 rfl rfl (zc_k255 zc_s255) (zc_pos zc_s255 rfl) ?_
  have t1 := zc_g255_4 hσ zc_s255
  refine zr_aload_n (pc := 9) hV dX1_readSum_9 rfl rfl ?_
  refine zr_getR (pc := 10) hV 0 3 dX1_readSum_10 fX1_34 rfl rfl (zc_k255 zc_s255) (zc_pos zc_s255 rfl) (zc_g255_0 hσ zc_s255) (by decide) ?_
  refine zr_callVp (pc := 13) hV [] (st := [ZI (σ 255 4), ZR 1, ZR o1]) (c_X9_wordMask (σ := σ) hσ) dX1_readSum_13 mX1_46 (zc_k3 zc_s3) (zc_pos zc_s3 rfl) (by decide) (Nat.le_of_ble_eq_true rfl) (Nat.le_refl _) (fun r13 hr13 pr13 => ?_)
  have t2 := zc_g255_4 hσ zc_s255
  refine zr_callVi (pc := 16) hV [ZR 1, ZI (σ 255 4), ZI r13] (st := []) (c_X7_readFrom (σ := σ) hσ o1 ko1 (σ 255 4) r13 (by omega) (by omega)) dX1_readSum_16 mX1_52 (zc_k256 ko1) (zc_pos ko1 rfl) (by decide) (Nat.le_of_ble_eq_true rfl) (Nat.le_refl _) (fun r16 σ16 hr16 pσ16 => ?_)
  obtain ⟨hσ16, hfσ16, hoσ16, pσ16⟩ := pσ16
  have hFσ16 := zc_Fc hfσ16 rfl hFσ
  have Uσ16 : zc_U σ16 := zc_U_own hσ hfσ16 rfl (by rw [eo1]; exact hoσ16) Uσ
  have t3 := zc_g256_5 hσ16 ko1
  refine zr_if_ne (pc := 19) hV 24 dX1_readSum_19 (by decide) (by omega) (fun c4 => ?_) (fun c4 => ?_)
  · show V 24 [some (ZR 255), some (ZR 1), none] [] 284 σ16
    refine zr_aload_n (pc := 24) hV dX1_readSum_24 rfl rfl ?_
    have t5 : σ16 255 2 = σ 255 2 := hfσ16 _ _ (zc_out_at zc_s255 rfl)
    refine zr_getR (pc := 25) hV 2 o1 dX1_readSum_25 fX1_18 rfl rfl (zc_k255 zc_s255) (zc_pos zc_s255 rfl) (by omega) (zc_pos ko1 rfl).1 ?_
    refine zr_astore_n (pc := 28) hV [some (ZR 255), some (ZR 1), some (ZR o1)] dX1_readSum_28 rfl (by decide) rfl rfl ?_
    refine zr_aload_n (pc := 29) hV dX1_readSum_29 rfl rfl ?_
    refine zr_aload_n (pc := 30) hV dX1_readSum_30 rfl rfl ?_
    have t6 : σ16 255 1 = σ 255 1 := hfσ16 _ _ (zc_out_at zc_s255 rfl)
    obtain ⟨o31, eo31⟩ : ∃ o, σ 255 1 = o := ⟨_, rfl⟩
    have ko31 : zc_kd o31 = 256 := eo31 ▸ zc_g255_1 hσ zc_s255
    have po31 := zc_pos ko31 rfl
    refine zr_getR (pc := 31) hV 1 o31 dX1_readSum_31 fX1_12 rfl rfl (zc_k255 zc_s255) (zc_pos zc_s255 rfl) (by omega) (zc_pos ko31 rfl).1 ?_
    refine zr_putR (pc := 34) hV 2 dX1_readSum_34 fX1_18 rfl (Or.inl rfl) rfl (zc_pos ko31 rfl).1 (zc_k255 zc_s255) (zc_pos zc_s255 rfl) (fun σ34 eσ34 => ?_)
    have hσ34 : zc_T σ34 := zc_u255_2 eσ34 hσ16 zc_s255 ko31
    have hFσ34 := zc_Fw eσ34 zc_s255 rfl hFσ16
    refine zr_aload_n (pc := 37) hV dX1_readSum_37 rfl rfl ?_
    refine zr_aload_n (pc := 38) hV dX1_readSum_38 rfl rfl ?_
    refine zr_putR (pc := 39) hV 1 dX1_readSum_39 fX1_12 rfl (Or.inl rfl) rfl (zc_pos ko1 rfl).1 (zc_k255 zc_s255) (zc_pos zc_s255 rfl) (fun σ39 eσ39 => ?_)
    have hσ39 : zc_T σ39 := zc_u255_1 eσ39 hσ34 zc_s255 ko1
    have hFσ39 := zc_Fw eσ39 zc_s255 rfl hFσ34
    refine zr_aload_n (pc := 42) hV dX1_readSum_42 rfl rfl ?_
    refine zr_iconst (pc := 43) hV 1 dX1_readSum_43 rfl ?_
    refine zr_putZ (pc := 44) hV 3 dX1_readSum_44 fX1_42 rfl rfl rfl (by omega) (zc_k255 zc_s255) (zc_pos zc_s255 rfl) (fun σ44 eσ44 => ?_)
    have hσ44 : zc_T σ44 := zc_u255_3 eσ44 hσ39 zc_s255 (by omega)
    have hFσ44 := zc_Fw eσ44 zc_s255 rfl hFσ39
    have Uσ44 : zc_U σ44 := zc_U_swap eσ34 eσ39 eσ44 ko1 (by have := Uσ.1; omega) (by omega)
    refine zr_iconst (pc := 47) hV 1 dX1_readSum_47 rfl ?_
    exact zr_zret (pc := 48) hV dX1_readSum_48 rfl rfl (by omega) ⟨_, rfl, ⟨by decide, by decide⟩, hσ44, hFσ44, (by omega), Uσ44⟩
  · show V 22 [some (ZR 255), some (ZR 1), none] [] 284 σ16
    refine zr_iconst (pc := 22) hV 0 dX1_readSum_22 rfl ?_
    exact zr_zret (pc := 23) hV dX1_readSum_23 rfl rfl (by omega) ⟨_, rfl, ⟨by decide, by decide⟩, hσ16, hFσ16, (by omega), Uσ16⟩
set_option maxHeartbeats 800000 in
theorem c_X1_ticksOf {σ : zq_S} (hσ : zc_T σ) (number : Int) (q0 : zq_in number) : zq_C zc_w yX1_ticksOf cX1_ticksOf 3 (some .int) 1 21 284 284 [ZR 255, ZI number] σ (zq_pp σ (fun r => True)) := by
  refine zq_C_of (by decide) (Nat.le_refl _) (Nat.le_of_ble_eq_true rfl) [some (ZR 255), some (ZI number), none] rfl (fun V hV => ?_)
  show V 0 [some (ZR 255), some (ZI number), none] [] 284 σ
  refine zr_aload_n (pc := 0) hV dX1_ticksOf_0 rfl rfl ?_
  refine zr_getR (pc := 1) hV 0 3 dX1_ticksOf_1 fX1_34 rfl rfl (zc_k255 zc_s255) (zc_pos zc_s255 rfl) (zc_g255_0 hσ zc_s255) (by decide) ?_
  refine zr_iload_n (pc := 4) hV dX1_ticksOf_4 rfl rfl ?_
  refine zr_callVr (pc := 5) hV [ZI number] (st := []) (c_X9_numbered (σ := σ) hσ number (by omega)) dX1_ticksOf_5 mX1_87 (zc_k3 zc_s3) (zc_pos zc_s3 rfl) (by decide) (Nat.le_of_ble_eq_true rfl) (Nat.le_refl _) (fun r5 pr5 => ?_)
  refine zr_astore_nQ (pc := 8) hV [some (ZR 255), some (ZI number), some (zq_nr r5)] dX1_ticksOf_8 rfl (by decide) rfl rfl ?_
  refine zr_aload_nQ (pc := 9) hV dX1_ticksOf_9 rfl rfl ?_
  by_cases c1 : r5 < 0
  · rw [zq_nr_n c1]
    refine zr_ifnonnullN (pc := 10) hV dX1_ticksOf_10 ?_
    show V 13 [some (ZR 255), some (ZI number), some (ZN)] [] 284 σ
    refine zr_ldc (pc := 13) (v := 1000000) hV 1000000 dX1_ticksOf_13 kX1_86 (by decide) ?_
    refine zr_goto (pc := 15) hV 22 dX1_ticksOf_15 (by decide) ?_
    show V 22 [some (ZR 255), some (ZI number), some (ZN)] [ZI 1000000] 284 σ
    exact zr_iret (pc := 22) hV dX1_ticksOf_22 rfl rfl ⟨rfl, _, rfl, ⟨by decide, by decide⟩, trivial⟩
  · rw [zq_nr_p c1]
    have kr5 : zc_kd r5 = 4 := pr5.1 (by omega)
    have por5 := zc_pos kr5 rfl
    refine zr_ifnonnull (pc := 10) hV 18 dX1_ticksOf_10 (by decide) ?_
    show V 18 [some (ZR 255), some (ZI number), some (ZR r5)] [] 284 σ
    refine zr_aload_n (pc := 18) hV dX1_ticksOf_18 rfl rfl ?_
    refine zr_getI (pc := 19) hV 11 dX1_ticksOf_19 fX1_91 rfl rfl (zc_k4 kr5) (zc_pos kr5 rfl) ?_
    have t2 := zc_g4_11 hσ kr5
    show V 22 [some (ZR 255), some (ZI number), some (ZR r5)] [ZI (σ r5 11)] 284 σ
    exact zr_iret (pc := 22) hV dX1_ticksOf_22 rfl rfl ⟨rfl, _, rfl, (by omega), trivial⟩
set_option maxHeartbeats 800000 in
theorem c_X1_hasRoomFor {σ : zq_S} (hσ : zc_T σ) (order : Int) (korder : zc_kd order = 4) (number : Int) (q0 : zq_in number) : zq_C zc_w yX1_hasRoomFor cX1_hasRoomFor 2 (some .boolean) 2 41 284 284 [ZR order, ZI number] σ (zq_pp σ (fun r => (0 ≤ r ∧ r ≤ 1))) := by
  refine zq_C_of (by decide) (Nat.le_refl _) (Nat.le_of_ble_eq_true rfl) [some (ZR order), some (ZI number)] rfl (fun V hV => ?_)
  have poorder := zc_pos korder rfl
  show V 0 [some (ZR order), some (ZI number)] [] 284 σ
  refine zr_iload_n (pc := 0) hV dX1_hasRoomFor_0 rfl rfl ?_
  refine zr_iconst (pc := 1) hV 1 dX1_hasRoomFor_1 rfl ?_
  refine zr_aload_n (pc := 2) hV dX1_hasRoomFor_2 rfl rfl ?_
  refine zr_iconst (pc := 3) hV 3 dX1_hasRoomFor_3 rfl ?_
  refine zr_callVp (pc := 4) hV [ZI 3] (st := [ZI 1, ZI number]) (c_X3_fieldBits (σ := σ) hσ order korder 3 (by omega)) dX1_hasRoomFor_4 mX1_96 (zc_k4 korder) (zc_pos korder rfl) (by decide) (Nat.le_of_ble_eq_true rfl) (Nat.le_refl _) (fun r4 hr4 pr4 => ?_)
  refine zr_ishl (pc := 7) hV dX1_hasRoomFor_7 ?_
  have t1 := zq_shl_in 1 r4
  refine zr_icmp_ge (pc := 8) hV 15 dX1_hasRoomFor_8 (by decide) (by omega) (by omega) (fun c2 => ?_) (fun c2 => ?_)
  · show V 15 [some (ZR order), some (ZI number)] [] 284 σ
    refine zr_iconst (pc := 15) hV 0 dX1_hasRoomFor_15 rfl ?_
    show V 16 [some (ZR order), some (ZI number)] [ZI 0] 284 σ
    exact zr_zret (pc := 16) hV dX1_hasRoomFor_16 rfl rfl (by omega) ⟨rfl, _, rfl, ⟨by decide, by decide⟩, (by omega)⟩
  · show V 11 [some (ZR order), some (ZI number)] [] 284 σ
    refine zr_iconst (pc := 11) hV 1 dX1_hasRoomFor_11 rfl ?_
    refine zr_goto (pc := 12) hV 16 dX1_hasRoomFor_12 (by decide) ?_
    show V 16 [some (ZR order), some (ZI number)] [ZI 1] 284 σ
    exact zr_zret (pc := 16) hV dX1_hasRoomFor_16 rfl rfl (by omega) ⟨rfl, _, rfl, ⟨by decide, by decide⟩, (by omega)⟩
set_option maxHeartbeats 800000 in
theorem c_X1_leastLoad {σ : zq_S} (hσ : zc_T σ) (number : Int) (q0 : zq_in number) : zq_C zc_w yX1_leastLoad cX1_leastLoad 5 (some .int) 3 62 284 284 [ZR 255, ZI number] σ (zq_pp σ (fun r => True)) := by
  refine zq_C_of (by decide) (Nat.le_refl _) (Nat.le_of_ble_eq_true rfl) [some (ZR 255), some (ZI number), none, none, none] rfl (fun V hV => ?_)
  show V 0 [some (ZR 255), some (ZI number), none, none, none] [] 284 σ
  refine zr_iconst (pc := 0) hV (-1) dX1_leastLoad_0 rfl ?_
  refine zr_istore_n (pc := 1) hV [some (ZR 255), some (ZI number), some (ZI (-1)), none, none] dX1_leastLoad_1 rfl (by decide) rfl rfl ?_
  refine zr_iconst (pc := 2) hV 0 dX1_leastLoad_2 rfl ?_
  refine zr_istore_n (pc := 3) hV [some (ZR 255), some (ZI number), some (ZI (-1)), some (ZI 0), none] dX1_leastLoad_3 rfl (by decide) rfl rfl ?_
  have L4 : ∀ (fuel : Nat) (x2_4 : Int) (x3_4 : Int), ((-1) ≤ x2_4 ∧ x2_4 ≤ 2147483647) → (0 ≤ x3_4 ∧ x3_4 ≤ 20) → 20 - x3_4 < (fuel : Int) → V 4 [some (ZR 255), some (ZI number), some (ZI x2_4), some (ZI x3_4), none] [] 284 σ := by
    intro fuel
    induction fuel with
    | zero =>
      intro x2_4 x3_4 hx2_4 hx3_4 hm4
      exfalso; omega
    | succ fuel ih =>
      intro x2_4 x3_4 hx2_4 hx3_4 hm4
      have ih4 := ih
      show V 4 [some (ZR 255), some (ZI number), some (ZI x2_4), some (ZI x3_4), none] [] 284 σ
      refine zr_iload_n (pc := 4) hV dX1_leastLoad_4 rfl rfl ?_
      refine zr_aload_n (pc := 5) hV dX1_leastLoad_5 rfl rfl ?_
      refine zr_getR (pc := 6) hV 0 3 dX1_leastLoad_6 fX1_34 rfl rfl (zc_k255 zc_s255) (zc_pos zc_s255 rfl) (zc_g255_0 hσ zc_s255) (by decide) ?_
      refine zr_getI (pc := 9) hV 3 dX1_leastLoad_9 fX1_99 rfl rfl (zc_k3 zc_s3) (zc_pos zc_s3 rfl) ?_
      have t1 := zc_g3_3 hσ zc_s3
      refine zr_icmp_ge (pc := 12) hV 65 dX1_leastLoad_12 (by decide) (by omega) (by omega) (fun c2 => ?_) (fun c2 => ?_)
      · show V 65 [some (ZR 255), some (ZI number), some (ZI x2_4), some (ZI x3_4), none] [] 284 σ
        refine zr_iload_n (pc := 65) hV dX1_leastLoad_65 rfl rfl ?_
        exact zr_iret (pc := 66) hV dX1_leastLoad_66 rfl rfl ⟨rfl, _, rfl, (by omega), trivial⟩
      · show V 15 [some (ZR 255), some (ZI number), some (ZI x2_4), some (ZI x3_4), none] [] 284 σ
        refine zr_aload_n (pc := 15) hV dX1_leastLoad_15 rfl rfl ?_
        refine zr_getR (pc := 16) hV 0 3 dX1_leastLoad_16 fX1_34 rfl rfl (zc_k255 zc_s255) (zc_pos zc_s255 rfl) (zc_g255_0 hσ zc_s255) (by decide) ?_
        refine zr_getR (pc := 19) hV 6 10 dX1_leastLoad_19 fX1_101 rfl rfl (zc_k3 zc_s3) (zc_pos zc_s3 rfl) (zc_g3_6 hσ zc_s3) (by decide) ?_
        refine zr_iload_n (pc := 22) hV dX1_leastLoad_22 rfl rfl ?_
        have ga23 : zc_kd (σ 10 x3_4) = 4 := zc_ga10 hσ zc_s10 x3_4 (by omega) (by omega)
        refine zr_aald (pc := 23) hV dX1_leastLoad_23 (zc_k10 zc_s10) (Or.inl rfl) (zc_pos zc_s10 rfl) rfl (by omega) (zc_pos ga23 rfl).1 ?_
        obtain ⟨o23, eo23⟩ : ∃ o, σ 10 x3_4 = o := ⟨_, rfl⟩
        rw [eo23] at ga23 ⊢
        have ko23 := ga23
        have po23 := zc_pos ko23 rfl
        show V 24 [some (ZR 255), some (ZI number), some (ZI x2_4), some (ZI x3_4), none] [ZR o23] 284 σ
        refine zr_astore (pc := 24) hV [some (ZR 255), some (ZI number), some (ZI x2_4), some (ZI x3_4), some (ZR o23)] dX1_leastLoad_24 (by decide) rfl rfl ?_
        refine zr_aload (pc := 26) hV dX1_leastLoad_26 rfl ?_
        refine zr_getI (pc := 28) hV 14 dX1_leastLoad_28 fX1_105 rfl rfl (zc_k4 ko23) (zc_pos ko23 rfl) ?_
        have t3 := zc_g4_14 hσ ko23
        refine zr_iconst (pc := 31) hV 1 dX1_leastLoad_31 rfl ?_
        refine zr_icmp_ne (pc := 32) hV 59 dX1_leastLoad_32 (by decide) (by omega) ⟨by decide, by decide⟩ (fun c4 => ?_) (fun c4 => ?_)
        · show V 59 [some (ZR 255), some (ZI number), some (ZI x2_4), some (ZI x3_4), some (ZR o23)] [] 284 σ
          refine zr_iinc (pc := 59) hV [some (ZR 255), some (ZI number), some (ZI x2_4), some (ZI (x3_4 + 1)), some (ZR o23)] (x3_4 + 1) dX1_leastLoad_59 rfl rfl (by decide) rfl rfl ?_
          refine zr_goto (pc := 62) hV 4 dX1_leastLoad_62 (by decide) ?_
          refine zr_sub (pc := 4) hV [some (ZR 255), some (ZI number), some (ZI x2_4), some (ZI (x3_4 + 1)), none] (⟨rfl, rfl, rfl, rfl, trivial⟩) ?_
          exact ih4 x2_4 (x3_4 + 1) (by omega) (by omega) (by omega)
        · show V 35 [some (ZR 255), some (ZI number), some (ZI x2_4), some (ZI x3_4), some (ZR o23)] [] 284 σ
          refine zr_aload (pc := 35) hV dX1_leastLoad_35 rfl ?_
          refine zr_iload_n (pc := 37) hV dX1_leastLoad_37 rfl rfl ?_
          refine zr_callSp (pc := 38) hV [ZR o23, ZI number] (st := []) (c_X1_hasRoomFor (σ := σ) hσ o23 ko23 number (by omega)) dX1_leastLoad_38 mX1_108 (by decide) (Nat.le_of_ble_eq_true rfl) (Nat.le_refl _) (fun r38 hr38 pr38 => ?_)
          refine zr_if_eq (pc := 41) hV 59 dX1_leastLoad_41 (by decide) (by omega) (fun c5 => ?_) (fun c5 => ?_)
          · show V 59 [some (ZR 255), some (ZI number), some (ZI x2_4), some (ZI x3_4), some (ZR o23)] [] 284 σ
            refine zr_iinc (pc := 59) hV [some (ZR 255), some (ZI number), some (ZI x2_4), some (ZI (x3_4 + 1)), some (ZR o23)] (x3_4 + 1) dX1_leastLoad_59 rfl rfl (by decide) rfl rfl ?_
            refine zr_goto (pc := 62) hV 4 dX1_leastLoad_62 (by decide) ?_
            refine zr_sub (pc := 4) hV [some (ZR 255), some (ZI number), some (ZI x2_4), some (ZI (x3_4 + 1)), none] (⟨rfl, rfl, rfl, rfl, trivial⟩) ?_
            exact ih4 x2_4 (x3_4 + 1) (by omega) (by omega) (by omega)
          · show V 44 [some (ZR 255), some (ZI number), some (ZI x2_4), some (ZI x3_4), some (ZR o23)] [] 284 σ
            refine zr_aload (pc := 44) hV dX1_leastLoad_44 rfl ?_
            refine zr_getI (pc := 46) hV 11 dX1_leastLoad_46 fX1_91 rfl rfl (zc_k4 ko23) (zc_pos ko23 rfl) ?_
            have t6 := zc_g4_11 hσ ko23
            refine zr_aload_n (pc := 49) hV dX1_leastLoad_49 rfl rfl ?_
            refine zr_iload_n (pc := 50) hV dX1_leastLoad_50 rfl rfl ?_
            refine zr_callVp (pc := 51) hV [ZI x2_4] (st := [ZI (σ o23 11)]) (c_X1_ticksOf (σ := σ) hσ x2_4 (by omega)) dX1_leastLoad_51 mX1_59 (zc_k255 zc_s255) (zc_pos zc_s255 rfl) (by decide) (Nat.le_of_ble_eq_true rfl) (Nat.le_refl _) (fun r51 hr51 pr51 => ?_)
            refine zr_icmp_ge (pc := 54) hV 59 dX1_leastLoad_54 (by decide) (by omega) (by omega) (fun c7 => ?_) (fun c7 => ?_)
            · show V 59 [some (ZR 255), some (ZI number), some (ZI x2_4), some (ZI x3_4), some (ZR o23)] [] 284 σ
              refine zr_iinc (pc := 59) hV [some (ZR 255), some (ZI number), some (ZI x2_4), some (ZI (x3_4 + 1)), some (ZR o23)] (x3_4 + 1) dX1_leastLoad_59 rfl rfl (by decide) rfl rfl ?_
              refine zr_goto (pc := 62) hV 4 dX1_leastLoad_62 (by decide) ?_
              refine zr_sub (pc := 4) hV [some (ZR 255), some (ZI number), some (ZI x2_4), some (ZI (x3_4 + 1)), none] (⟨rfl, rfl, rfl, rfl, trivial⟩) ?_
              exact ih4 x2_4 (x3_4 + 1) (by omega) (by omega) (by omega)
            · show V 57 [some (ZR 255), some (ZI number), some (ZI x2_4), some (ZI x3_4), some (ZR o23)] [] 284 σ
              refine zr_iload_n (pc := 57) hV dX1_leastLoad_57 rfl rfl ?_
              refine zr_istore_n (pc := 58) hV [some (ZR 255), some (ZI number), some (ZI x3_4), some (ZI x3_4), some (ZR o23)] dX1_leastLoad_58 rfl (by decide) rfl rfl ?_
              show V 59 [some (ZR 255), some (ZI number), some (ZI x3_4), some (ZI x3_4), some (ZR o23)] [] 284 σ
              refine zr_iinc (pc := 59) hV [some (ZR 255), some (ZI number), some (ZI x3_4), some (ZI (x3_4 + 1)), some (ZR o23)] (x3_4 + 1) dX1_leastLoad_59 rfl rfl (by decide) rfl rfl ?_
              refine zr_goto (pc := 62) hV 4 dX1_leastLoad_62 (by decide) ?_
              refine zr_sub (pc := 4) hV [some (ZR 255), some (ZI number), some (ZI x3_4), some (ZI (x3_4 + 1)), none] (⟨rfl, rfl, rfl, rfl, trivial⟩) ?_
              exact ih4 x3_4 (x3_4 + 1) (by omega) (by omega) (by omega)
  exact L4 (20 - (0 : Int) + 1 : Int).toNat (-1) 0 (by omega) (by omega) (by omega)
set_option maxHeartbeats 800000 in
theorem c_X1_leastMove {σ : zq_S} (hσ : zc_T σ)   : zq_C zc_w yX1_leastMove cX1_leastMove 3 (some .int) 2 43 284 284 [ZR 255] σ (zq_pp σ (fun r => True)) := by
  refine zq_C_of (by decide) (Nat.le_refl _) (Nat.le_of_ble_eq_true rfl) [some (ZR 255), none, none] rfl (fun V hV => ?_)
  show V 0 [some (ZR 255), none, none] [] 284 σ
  refine zr_iconst (pc := 0) hV (-1) dX1_leastMove_0 rfl ?_
  refine zr_istore_n (pc := 1) hV [some (ZR 255), some (ZI (-1)), none] dX1_leastMove_1 rfl (by decide) rfl rfl ?_
  refine zr_iconst (pc := 2) hV 0 dX1_leastMove_2 rfl ?_
  refine zr_istore_n (pc := 3) hV [some (ZR 255), some (ZI (-1)), some (ZI 0)] dX1_leastMove_3 rfl (by decide) rfl rfl ?_
  have L4 : ∀ (fuel : Nat) (x1_4 : Int) (x2_4 : Int), ((-1) ≤ x1_4 ∧ x1_4 ≤ 2147483647) → (0 ≤ x2_4 ∧ x2_4 ≤ 20) → 20 - x2_4 < (fuel : Int) → V 4 [some (ZR 255), some (ZI x1_4), some (ZI x2_4)] [] 284 σ := by
    intro fuel
    induction fuel with
    | zero =>
      intro x1_4 x2_4 hx1_4 hx2_4 hm4
      exfalso; omega
    | succ fuel ih =>
      intro x1_4 x2_4 hx1_4 hx2_4 hm4
      have ih4 := ih
      show V 4 [some (ZR 255), some (ZI x1_4), some (ZI x2_4)] [] 284 σ
      refine zr_iload_n (pc := 4) hV dX1_leastMove_4 rfl rfl ?_
      refine zr_aload_n (pc := 5) hV dX1_leastMove_5 rfl rfl ?_
      refine zr_getR (pc := 6) hV 0 3 dX1_leastMove_6 fX1_34 rfl rfl (zc_k255 zc_s255) (zc_pos zc_s255 rfl) (zc_g255_0 hσ zc_s255) (by decide) ?_
      refine zr_getI (pc := 9) hV 3 dX1_leastMove_9 fX1_99 rfl rfl (zc_k3 zc_s3) (zc_pos zc_s3 rfl) ?_
      have t1 := zc_g3_3 hσ zc_s3
      refine zr_icmp_ge (pc := 12) hV 59 dX1_leastMove_12 (by decide) (by omega) (by omega) (fun c2 => ?_) (fun c2 => ?_)
      · show V 59 [some (ZR 255), some (ZI x1_4), some (ZI x2_4)] [] 284 σ
        refine zr_iload_n (pc := 59) hV dX1_leastMove_59 rfl rfl ?_
        exact zr_iret (pc := 60) hV dX1_leastMove_60 rfl rfl ⟨rfl, _, rfl, (by omega), trivial⟩
      · show V 15 [some (ZR 255), some (ZI x1_4), some (ZI x2_4)] [] 284 σ
        refine zr_aload_n (pc := 15) hV dX1_leastMove_15 rfl rfl ?_
        refine zr_getR (pc := 16) hV 0 3 dX1_leastMove_16 fX1_34 rfl rfl (zc_k255 zc_s255) (zc_pos zc_s255 rfl) (zc_g255_0 hσ zc_s255) (by decide) ?_
        refine zr_getR (pc := 19) hV 6 10 dX1_leastMove_19 fX1_101 rfl rfl (zc_k3 zc_s3) (zc_pos zc_s3 rfl) (zc_g3_6 hσ zc_s3) (by decide) ?_
        refine zr_iload_n (pc := 22) hV dX1_leastMove_22 rfl rfl ?_
        have ga23 : zc_kd (σ 10 x2_4) = 4 := zc_ga10 hσ zc_s10 x2_4 (by omega) (by omega)
        refine zr_aald (pc := 23) hV dX1_leastMove_23 (zc_k10 zc_s10) (Or.inl rfl) (zc_pos zc_s10 rfl) rfl (by omega) (zc_pos ga23 rfl).1 ?_
        obtain ⟨o23, eo23⟩ : ∃ o, σ 10 x2_4 = o := ⟨_, rfl⟩
        rw [eo23] at ga23 ⊢
        have ko23 := ga23
        have po23 := zc_pos ko23 rfl
        show V 24 [some (ZR 255), some (ZI x1_4), some (ZI x2_4)] [ZR o23] 284 σ
        refine zr_getI (pc := 24) hV 14 dX1_leastMove_24 fX1_105 rfl rfl (zc_k4 ko23) (zc_pos ko23 rfl) ?_
        have t3 := zc_g4_14 hσ ko23
        refine zr_iconst (pc := 27) hV 2 dX1_leastMove_27 rfl ?_
        refine zr_icmp_ne (pc := 28) hV 53 dX1_leastMove_28 (by decide) (by omega) ⟨by decide, by decide⟩ (fun c4 => ?_) (fun c4 => ?_)
        · show V 53 [some (ZR 255), some (ZI x1_4), some (ZI x2_4)] [] 284 σ
          refine zr_iinc (pc := 53) hV [some (ZR 255), some (ZI x1_4), some (ZI (x2_4 + 1))] (x2_4 + 1) dX1_leastMove_53 rfl rfl (by decide) rfl rfl ?_
          refine zr_goto (pc := 56) hV 4 dX1_leastMove_56 (by decide) ?_
          exact ih4 x1_4 (x2_4 + 1) (by omega) (by omega) (by omega)
        · show V 31 [some (ZR 255), some (ZI x1_4), some (ZI x2_4)] [] 284 σ
          refine zr_aload_n (pc := 31) hV dX1_leastMove_31 rfl rfl ?_
          refine zr_getR (pc := 32) hV 0 3 dX1_leastMove_32 fX1_34 rfl rfl (zc_k255 zc_s255) (zc_pos zc_s255 rfl) (zc_g255_0 hσ zc_s255) (by decide) ?_
          refine zr_getR (pc := 35) hV 6 10 dX1_leastMove_35 fX1_101 rfl rfl (zc_k3 zc_s3) (zc_pos zc_s3 rfl) (zc_g3_6 hσ zc_s3) (by decide) ?_
          refine zr_iload_n (pc := 38) hV dX1_leastMove_38 rfl rfl ?_
          have ga39 : zc_kd (σ 10 x2_4) = 4 := zc_ga10 hσ zc_s10 x2_4 (by omega) (by omega)
          refine zr_aald (pc := 39) hV dX1_leastMove_39 (zc_k10 zc_s10) (Or.inl rfl) (zc_pos zc_s10 rfl) rfl (by omega) (zc_pos ga39 rfl).1 ?_
          obtain ⟨o39, eo39⟩ : ∃ o, σ 10 x2_4 = o := ⟨_, rfl⟩
          rw [eo39] at ga39 ⊢
          have ko39 := ga39
          have po39 := zc_pos ko39 rfl
          show V 40 [some (ZR 255), some (ZI x1_4), some (ZI x2_4)] [ZR o39] 284 σ
          refine zr_getI (pc := 40) hV 11 dX1_leastMove_40 fX1_91 rfl rfl (zc_k4 ko39) (zc_pos ko39 rfl) ?_
          have t5 := zc_g4_11 hσ ko39
          refine zr_aload_n (pc := 43) hV dX1_leastMove_43 rfl rfl ?_
          refine zr_iload_n (pc := 44) hV dX1_leastMove_44 rfl rfl ?_
          refine zr_callVp (pc := 45) hV [ZI x1_4] (st := [ZI (σ o39 11)]) (c_X1_ticksOf (σ := σ) hσ x1_4 (by omega)) dX1_leastMove_45 mX1_59 (zc_k255 zc_s255) (zc_pos zc_s255 rfl) (by decide) (Nat.le_of_ble_eq_true rfl) (Nat.le_refl _) (fun r45 hr45 pr45 => ?_)
          refine zr_icmp_ge (pc := 48) hV 53 dX1_leastMove_48 (by decide) (by omega) (by omega) (fun c6 => ?_) (fun c6 => ?_)
          · show V 53 [some (ZR 255), some (ZI x1_4), some (ZI x2_4)] [] 284 σ
            refine zr_iinc (pc := 53) hV [some (ZR 255), some (ZI x1_4), some (ZI (x2_4 + 1))] (x2_4 + 1) dX1_leastMove_53 rfl rfl (by decide) rfl rfl ?_
            refine zr_goto (pc := 56) hV 4 dX1_leastMove_56 (by decide) ?_
            exact ih4 x1_4 (x2_4 + 1) (by omega) (by omega) (by omega)
          · show V 51 [some (ZR 255), some (ZI x1_4), some (ZI x2_4)] [] 284 σ
            refine zr_iload_n (pc := 51) hV dX1_leastMove_51 rfl rfl ?_
            refine zr_istore_n (pc := 52) hV [some (ZR 255), some (ZI x2_4), some (ZI x2_4)] dX1_leastMove_52 rfl (by decide) rfl rfl ?_
            show V 53 [some (ZR 255), some (ZI x2_4), some (ZI x2_4)] [] 284 σ
            refine zr_iinc (pc := 53) hV [some (ZR 255), some (ZI x2_4), some (ZI (x2_4 + 1))] (x2_4 + 1) dX1_leastMove_53 rfl rfl (by decide) rfl rfl ?_
            refine zr_goto (pc := 56) hV 4 dX1_leastMove_56 (by decide) ?_
            exact ih4 x2_4 (x2_4 + 1) (by omega) (by omega) (by omega)
  exact L4 (20 - (0 : Int) + 1 : Int).toNat (-1) 0 (by omega) (by omega) (by omega)
set_option maxHeartbeats 800000 in
theorem c_X1_takesRegister {σ : zq_S} (form : Int) (q0 : zq_in form) : zq_C zc_w yX1_takesRegister cX1_takesRegister 1 (some .boolean) 0 0 284 284 [ZI form] σ (zq_pp σ (fun r => (0 ≤ r ∧ r ≤ 1))) := by
  refine zq_C_of (by decide) (Nat.le_refl _) (Nat.le_of_ble_eq_true rfl) [some (ZI form)] rfl (fun V hV => ?_)
  show V 0 [some (ZI form)] [] 284 σ
  refine zr_iload_n (pc := 0) hV dX1_takesRegister_0 rfl rfl ?_
  refine zr_iconst (pc := 1) hV 3 dX1_takesRegister_1 rfl ?_
  refine zr_icmp_eq (pc := 2) hV 10 dX1_takesRegister_2 (by decide) (by omega) ⟨by decide, by decide⟩ (fun c1 => ?_) (fun c1 => ?_)
  · show V 10 [some (ZI form)] [] 284 σ
    refine zr_iconst (pc := 10) hV 1 dX1_takesRegister_10 rfl ?_
    refine zr_goto (pc := 11) hV 15 dX1_takesRegister_11 (by decide) ?_
    show V 15 [some (ZI form)] [ZI 1] 284 σ
    exact zr_zret (pc := 15) hV dX1_takesRegister_15 rfl rfl (by omega) ⟨rfl, _, rfl, ⟨by decide, by decide⟩, (by omega)⟩
  · show V 5 [some (ZI form)] [] 284 σ
    refine zr_iload_n (pc := 5) hV dX1_takesRegister_5 rfl rfl ?_
    refine zr_iconst (pc := 6) hV 5 dX1_takesRegister_6 rfl ?_
    refine zr_icmp_ne (pc := 7) hV 14 dX1_takesRegister_7 (by decide) (by omega) ⟨by decide, by decide⟩ (fun c2 => ?_) (fun c2 => ?_)
    · show V 14 [some (ZI form)] [] 284 σ
      refine zr_iconst (pc := 14) hV 0 dX1_takesRegister_14 rfl ?_
      show V 15 [some (ZI form)] [ZI 0] 284 σ
      exact zr_zret (pc := 15) hV dX1_takesRegister_15 rfl rfl (by omega) ⟨rfl, _, rfl, ⟨by decide, by decide⟩, (by omega)⟩
    · show V 10 [some (ZI form)] [] 284 σ
      refine zr_iconst (pc := 10) hV 1 dX1_takesRegister_10 rfl ?_
      refine zr_goto (pc := 11) hV 15 dX1_takesRegister_11 (by decide) ?_
      show V 15 [some (ZI form)] [ZI 1] 284 σ
      exact zr_zret (pc := 15) hV dX1_takesRegister_15 rfl rfl (by omega) ⟨rfl, _, rfl, ⟨by decide, by decide⟩, (by omega)⟩
set_option maxHeartbeats 800000 in
theorem c_X1_worksInPlace {σ : zq_S} (form : Int) (q0 : zq_in form) : zq_C zc_w yX1_worksInPlace cX1_worksInPlace 1 (some .boolean) 0 0 284 284 [ZI form] σ (zq_pp σ (fun r => (0 ≤ r ∧ r ≤ 1))) := by
  refine zq_C_of (by decide) (Nat.le_refl _) (Nat.le_of_ble_eq_true rfl) [some (ZI form)] rfl (fun V hV => ?_)
  show V 0 [some (ZI form)] [] 284 σ
  refine zr_iload_n (pc := 0) hV dX1_worksInPlace_0 rfl rfl ?_
  refine zr_iconst (pc := 1) hV 5 dX1_worksInPlace_1 rfl ?_
  refine zr_icmp_eq (pc := 2) hV 11 dX1_worksInPlace_2 (by decide) (by omega) ⟨by decide, by decide⟩ (fun c1 => ?_) (fun c1 => ?_)
  · show V 11 [some (ZI form)] [] 284 σ
    refine zr_iconst (pc := 11) hV 1 dX1_worksInPlace_11 rfl ?_
    refine zr_goto (pc := 12) hV 16 dX1_worksInPlace_12 (by decide) ?_
    show V 16 [some (ZI form)] [ZI 1] 284 σ
    exact zr_zret (pc := 16) hV dX1_worksInPlace_16 rfl rfl (by omega) ⟨rfl, _, rfl, ⟨by decide, by decide⟩, (by omega)⟩
  · show V 5 [some (ZI form)] [] 284 σ
    refine zr_iload_n (pc := 5) hV dX1_worksInPlace_5 rfl rfl ?_
    refine zr_bipush (pc := 6) hV 6 dX1_worksInPlace_6 (by decide) ?_
    refine zr_icmp_ne (pc := 8) hV 15 dX1_worksInPlace_8 (by decide) (by omega) ⟨by decide, by decide⟩ (fun c2 => ?_) (fun c2 => ?_)
    · show V 15 [some (ZI form)] [] 284 σ
      refine zr_iconst (pc := 15) hV 0 dX1_worksInPlace_15 rfl ?_
      show V 16 [some (ZI form)] [ZI 0] 284 σ
      exact zr_zret (pc := 16) hV dX1_worksInPlace_16 rfl rfl (by omega) ⟨rfl, _, rfl, ⟨by decide, by decide⟩, (by omega)⟩
    · show V 11 [some (ZI form)] [] 284 σ
      refine zr_iconst (pc := 11) hV 1 dX1_worksInPlace_11 rfl ?_
      refine zr_goto (pc := 12) hV 16 dX1_worksInPlace_12 (by decide) ?_
      show V 16 [some (ZI form)] [ZI 1] 284 σ
      exact zr_zret (pc := 16) hV dX1_worksInPlace_16 rfl rfl (by omega) ⟨rfl, _, rfl, ⟨by decide, by decide⟩, (by omega)⟩
set_option maxHeartbeats 800000 in
theorem c_X1_priceBy {σ : zq_S} (hσ : zc_T σ) (order : Int) (korder : zc_kd order = 4) (node : Int) (moveTicks : Int) (q0 : 0 ≤ node ∧ node ≤ 38) (q1 : zq_in moveTicks) : zq_C zc_w yX1_priceBy cX1_priceBy 7 (some .int) 3 62 284 284 [ZR 255, ZR order, ZI node, ZI moveTicks] σ (zq_pp σ (fun r => True)) := by
  refine zq_C_of (by decide) (Nat.le_refl _) (Nat.le_of_ble_eq_true rfl) [some (ZR 255), some (ZR order), some (ZI node), some (ZI moveTicks), none, none, none] rfl (fun V hV => ?_)
  have poorder := zc_pos korder rfl
  show V 0 [some (ZR 255), some (ZR order), some (ZI node), some (ZI moveTicks), none, none, none] [] 284 σ
  refine zr_aload_n (pc := 0) hV dX1_priceBy_0 rfl rfl ?_
  obtain ⟨o1, eo1⟩ : ∃ o, σ 255 1 = o := ⟨_, rfl⟩
  have ko1 : zc_kd o1 = 256 := eo1 ▸ zc_g255_1 hσ zc_s255
  have po1 := zc_pos ko1 rfl
  refine zr_getR (pc := 1) hV 1 o1 dX1_priceBy_1 fX1_12 rfl rfl (zc_k255 zc_s255) (zc_pos zc_s255 rfl) (by omega) (zc_pos ko1 rfl).1 ?_
  refine zr_getR (pc := 4) hV 2 (o1 + 3) dX1_priceBy_4 fX1_122 rfl rfl (zc_k256 ko1) (zc_pos ko1 rfl) (zc_g256_2 hσ ko1) (zc_pos (zc_p256_3 ko1) rfl).1 ?_
  refine zr_iload_n (pc := 7) hV dX1_priceBy_7 rfl rfl ?_
  refine zr_iald (pc := 8) hV dX1_priceBy_8 (zc_k259 (zc_p256_3 ko1)) (zc_pos (zc_p256_3 ko1) rfl) rfl (by omega) ?_
  have t1 := zc_ga259 hσ (zc_p256_3 ko1) node
  refine zr_istore (pc := 9) hV [some (ZR 255), some (ZR order), some (ZI node), some (ZI moveTicks), some (ZI (σ (o1 + 3) node)), none, none] dX1_priceBy_9 (by decide) rfl rfl ?_
  refine zr_aload_n (pc := 11) hV dX1_priceBy_11 rfl rfl ?_
  refine zr_getR (pc := 12) hV 1 o1 dX1_priceBy_12 fX1_12 rfl rfl (zc_k255 zc_s255) (zc_pos zc_s255 rfl) (by omega) (zc_pos ko1 rfl).1 ?_
  refine zr_getR (pc := 15) hV 3 (o1 + 4) dX1_priceBy_15 fX1_125 rfl rfl (zc_k256 ko1) (zc_pos ko1 rfl) (zc_g256_3 hσ ko1) (zc_pos (zc_p256_4 ko1) rfl).1 ?_
  refine zr_iload_n (pc := 18) hV dX1_priceBy_18 rfl rfl ?_
  refine zr_iald (pc := 19) hV dX1_priceBy_19 (zc_k260 (zc_p256_4 ko1)) (zc_pos (zc_p256_4 ko1) rfl) rfl (by omega) ?_
  have t2 := zc_ga260 hσ (zc_p256_4 ko1) node
  refine zr_istore (pc := 20) hV [some (ZR 255), some (ZR order), some (ZI node), some (ZI moveTicks), some (ZI (σ (o1 + 3) node)), some (ZI (σ (o1 + 4) node)), none] dX1_priceBy_20 (by decide) rfl rfl ?_
  refine zr_aload_n (pc := 22) hV dX1_priceBy_22 rfl rfl ?_
  refine zr_getI (pc := 23) hV 11 dX1_priceBy_23 fX1_91 rfl rfl (zc_k4 korder) (zc_pos korder rfl) ?_
  have t3 := zc_g4_11 hσ korder
  refine zr_aload_n (pc := 26) hV dX1_priceBy_26 rfl rfl ?_
  refine zr_getR (pc := 27) hV 5 272 dX1_priceBy_27 fX1_21 rfl rfl (zc_k255 zc_s255) (zc_pos zc_s255 rfl) (zc_g255_5 hσ zc_s255) (by decide) ?_
  refine zr_iload (pc := 30) hV dX1_priceBy_30 rfl ?_
  refine zr_iald (pc := 32) hV dX1_priceBy_32 (zc_k272 zc_s272) (zc_pos zc_s272 rfl) rfl (by omega) ?_
  have t4 := zc_ga272 hσ zc_s272 (σ (o1 + 3) node)
  refine zr_iadd (pc := 33) hV dX1_priceBy_33 ?_
  refine zr_any (pc := 34) hV (fun y34 hy34 _ => ?_)
  refine zr_istore (pc := 34) hV [some (ZR 255), some (ZR order), some (ZI node), some (ZI moveTicks), some (ZI (σ (o1 + 3) node)), some (ZI (σ (o1 + 4) node)), some (ZI y34)] dX1_priceBy_34 (by decide) rfl rfl ?_
  refine zr_aload_n (pc := 36) hV dX1_priceBy_36 rfl rfl ?_
  refine zr_getI (pc := 37) hV 14 dX1_priceBy_37 fX1_105 rfl rfl (zc_k4 korder) (zc_pos korder rfl) ?_
  have t5 := zc_g4_14 hσ korder
  have t6 := zc_g4_14 hσ korder
  refine zr_callSp (pc := 40) hV [ZI (σ order 14)] (st := []) (c_X1_takesRegister (σ := σ) (σ order 14) (by omega)) dX1_priceBy_40 mX1_128 (by decide) (Nat.le_of_ble_eq_true rfl) (Nat.le_refl _) (fun r40 hr40 pr40 => ?_)
  have J93 : ∀ (x6_93 : Int), ((-2147483648) ≤ x6_93 ∧ x6_93 ≤ 2147483647) → V 93 [some (ZR 255), some (ZR order), none, some (ZI moveTicks), some (ZI (σ (o1 + 3) node)), none, some (ZI x6_93)] [] 284 σ := by
    intro x6_93 hx6_93
    show V 93 [some (ZR 255), some (ZR order), none, some (ZI moveTicks), some (ZI (σ (o1 + 3) node)), none, some (ZI x6_93)] [] 284 σ
    refine zr_aload_n (pc := 93) hV dX1_priceBy_93 rfl rfl ?_
    refine zr_getI (pc := 94) hV 14 dX1_priceBy_94 fX1_105 rfl rfl (zc_k4 korder) (zc_pos korder rfl) ?_
    have t7 := zc_g4_14 hσ korder
    have t8 := zc_g4_14 hσ korder
    refine zr_callSp (pc := 97) hV [ZI (σ order 14)] (st := []) (c_X1_worksInPlace (σ := σ) (σ order 14) (by omega)) dX1_priceBy_97 mX1_131 (by decide) (Nat.le_of_ble_eq_true rfl) (Nat.le_refl _) (fun r97 hr97 pr97 => ?_)
    refine zr_if_eq (pc := 100) hV 121 dX1_priceBy_100 (by decide) (by omega) (fun c9 => ?_) (fun c9 => ?_)
    · show V 121 [some (ZR 255), some (ZR order), none, some (ZI moveTicks), some (ZI (σ (o1 + 3) node)), none, some (ZI x6_93)] [] 284 σ
      refine zr_iload (pc := 121) hV dX1_priceBy_121 rfl ?_
      refine zr_ldc (pc := 123) (v := 1000000) hV 1000000 dX1_priceBy_123 kX1_86 (by decide) ?_
      refine zr_min (pc := 125) hV (st := []) dX1_priceBy_125 lX1_134 (by omega) ⟨by decide, by decide⟩ (Nat.le_of_ble_eq_true rfl) rfl rfl (fun r125 pr125 qr125 => ?_)
      exact zr_iret (pc := 128) hV dX1_priceBy_128 rfl rfl ⟨rfl, _, rfl, (by omega), trivial⟩
    · show V 103 [some (ZR 255), some (ZR order), none, some (ZI moveTicks), some (ZI (σ (o1 + 3) node)), none, some (ZI x6_93)] [] 284 σ
      refine zr_aload_n (pc := 103) hV dX1_priceBy_103 rfl rfl ?_
      refine zr_getR (pc := 104) hV 1 o1 dX1_priceBy_104 fX1_12 rfl rfl (zc_k255 zc_s255) (zc_pos zc_s255 rfl) (by omega) (zc_pos ko1 rfl).1 ?_
      refine zr_iload (pc := 107) hV dX1_priceBy_107 rfl ?_
      refine zr_callVp (pc := 109) hV [ZI (σ (o1 + 3) node)] (st := []) (c_X7_isVariable (σ := σ) hσ o1 ko1 (σ (o1 + 3) node) (by omega)) dX1_priceBy_109 mX1_66 (zc_k256 ko1) (zc_pos ko1 rfl) (by decide) (Nat.le_of_ble_eq_true rfl) (Nat.le_refl _) (fun r109 hr109 pr109 => ?_)
      refine zr_if_eq (pc := 112) hV 121 dX1_priceBy_112 (by decide) (by omega) (fun c10 => ?_) (fun c10 => ?_)
      · show V 121 [some (ZR 255), some (ZR order), none, some (ZI moveTicks), some (ZI (σ (o1 + 3) node)), none, some (ZI x6_93)] [] 284 σ
        refine zr_iload (pc := 121) hV dX1_priceBy_121 rfl ?_
        refine zr_ldc (pc := 123) (v := 1000000) hV 1000000 dX1_priceBy_123 kX1_86 (by decide) ?_
        refine zr_min (pc := 125) hV (st := []) dX1_priceBy_125 lX1_134 (by omega) ⟨by decide, by decide⟩ (Nat.le_of_ble_eq_true rfl) rfl rfl (fun r125 pr125 qr125 => ?_)
        exact zr_iret (pc := 128) hV dX1_priceBy_128 rfl rfl ⟨rfl, _, rfl, (by omega), trivial⟩
      · show V 115 [some (ZR 255), some (ZR order), none, some (ZI moveTicks), some (ZI (σ (o1 + 3) node)), none, some (ZI x6_93)] [] 284 σ
        refine zr_iload (pc := 115) hV dX1_priceBy_115 rfl ?_
        refine zr_iload_n (pc := 117) hV dX1_priceBy_117 rfl rfl ?_
        refine zr_iadd (pc := 118) hV dX1_priceBy_118 ?_
        refine zr_any (pc := 119) hV (fun y119 hy119 _ => ?_)
        refine zr_istore (pc := 119) hV [some (ZR 255), some (ZR order), none, some (ZI moveTicks), some (ZI (σ (o1 + 3) node)), none, some (ZI y119)] dX1_priceBy_119 (by decide) rfl rfl ?_
        show V 121 [some (ZR 255), some (ZR order), none, some (ZI moveTicks), some (ZI (σ (o1 + 3) node)), none, some (ZI y119)] [] 284 σ
        refine zr_iload (pc := 121) hV dX1_priceBy_121 rfl ?_
        refine zr_ldc (pc := 123) (v := 1000000) hV 1000000 dX1_priceBy_123 kX1_86 (by decide) ?_
        refine zr_min (pc := 125) hV (st := []) dX1_priceBy_125 lX1_134 (by omega) ⟨by decide, by decide⟩ (Nat.le_of_ble_eq_true rfl) rfl rfl (fun r125 pr125 qr125 => ?_)
        exact zr_iret (pc := 128) hV dX1_priceBy_128 rfl rfl ⟨rfl, _, rfl, (by omega), trivial⟩
  refine zr_if_eq (pc := 43) hV 61 dX1_priceBy_43 (by decide) (by omega) (fun c11 => ?_) (fun c11 => ?_)
  · show V 61 [some (ZR 255), some (ZR order), some (ZI node), some (ZI moveTicks), some (ZI (σ (o1 + 3) node)), some (ZI (σ (o1 + 4) node)), some (ZI y34)] [] 284 σ
    refine zr_aload_n (pc := 61) hV dX1_priceBy_61 rfl rfl ?_
    refine zr_getR (pc := 62) hV 1 o1 dX1_priceBy_62 fX1_12 rfl rfl (zc_k255 zc_s255) (zc_pos zc_s255 rfl) (by omega) (zc_pos ko1 rfl).1 ?_
    refine zr_iload (pc := 65) hV dX1_priceBy_65 rfl ?_
    refine zr_callVp (pc := 67) hV [ZI (σ (o1 + 4) node)] (st := []) (c_X7_isLiteral (σ := σ) hσ o1 ko1 (σ (o1 + 4) node) (by omega)) dX1_priceBy_67 mX1_70 (zc_k256 ko1) (zc_pos ko1 rfl) (by decide) (Nat.le_of_ble_eq_true rfl) (Nat.le_refl _) (fun r67 hr67 pr67 => ?_)
    refine zr_if_eq (pc := 70) hV 90 dX1_priceBy_70 (by decide) (by omega) (fun c12 => ?_) (fun c12 => ?_)
    · show V 90 [some (ZR 255), some (ZR order), some (ZI node), some (ZI moveTicks), some (ZI (σ (o1 + 3) node)), some (ZI (σ (o1 + 4) node)), some (ZI y34)] [] 284 σ
      refine zr_ldc (pc := 90) (v := 1000000) hV 1000000 dX1_priceBy_90 kX1_86 (by decide) ?_
      exact zr_iret (pc := 92) hV dX1_priceBy_92 rfl rfl ⟨rfl, _, rfl, ⟨by decide, by decide⟩, trivial⟩
    · show V 73 [some (ZR 255), some (ZR order), some (ZI node), some (ZI moveTicks), some (ZI (σ (o1 + 3) node)), some (ZI (σ (o1 + 4) node)), some (ZI y34)] [] 284 σ
      refine zr_aload_n (pc := 73) hV dX1_priceBy_73 rfl rfl ?_
      refine zr_aload_n (pc := 74) hV dX1_priceBy_74 rfl rfl ?_
      refine zr_getR (pc := 75) hV 1 o1 dX1_priceBy_75 fX1_12 rfl rfl (zc_k255 zc_s255) (zc_pos zc_s255 rfl) (by omega) (zc_pos ko1 rfl).1 ?_
      refine zr_getR (pc := 78) hV 1 (o1 + 2) dX1_priceBy_78 fX1_73 rfl rfl (zc_k256 ko1) (zc_pos ko1 rfl) (zc_g256_1 hσ ko1) (zc_pos (zc_p256_2 ko1) rfl).1 ?_
      refine zr_iload (pc := 81) hV dX1_priceBy_81 rfl ?_
      refine zr_iald (pc := 83) hV dX1_priceBy_83 (zc_k258 (zc_p256_2 ko1)) (zc_pos (zc_p256_2 ko1) rfl) rfl (by omega) ?_
      have t13 := zc_ga258 hσ (zc_p256_2 ko1) (σ (o1 + 4) node)
      refine zr_callSp (pc := 84) hV [ZR order, ZI (σ (o1 + 2) (σ (o1 + 4) node))] (st := []) (c_X1_hasRoomFor (σ := σ) hσ order korder (σ (o1 + 2) (σ (o1 + 4) node)) (by omega)) dX1_priceBy_84 mX1_108 (by decide) (Nat.le_of_ble_eq_true rfl) (Nat.le_refl _) (fun r84 hr84 pr84 => ?_)
      refine zr_if_ne (pc := 87) hV 93 dX1_priceBy_87 (by decide) (by omega) (fun c14 => ?_) (fun c14 => ?_)
      · refine zr_sub (pc := 93) hV [some (ZR 255), some (ZR order), none, some (ZI moveTicks), some (ZI (σ (o1 + 3) node)), none, some (ZI y34)] (⟨rfl, rfl, rfl, rfl, rfl, trivial⟩) ?_
        exact J93 y34 (by omega)
      · show V 90 [some (ZR 255), some (ZR order), some (ZI node), some (ZI moveTicks), some (ZI (σ (o1 + 3) node)), some (ZI (σ (o1 + 4) node)), some (ZI y34)] [] 284 σ
        refine zr_ldc (pc := 90) (v := 1000000) hV 1000000 dX1_priceBy_90 kX1_86 (by decide) ?_
        exact zr_iret (pc := 92) hV dX1_priceBy_92 rfl rfl ⟨rfl, _, rfl, ⟨by decide, by decide⟩, trivial⟩
  · show V 46 [some (ZR 255), some (ZR order), some (ZI node), some (ZI moveTicks), some (ZI (σ (o1 + 3) node)), some (ZI (σ (o1 + 4) node)), some (ZI y34)] [] 284 σ
    refine zr_iload (pc := 46) hV dX1_priceBy_46 rfl ?_
    refine zr_aload_n (pc := 48) hV dX1_priceBy_48 rfl rfl ?_
    refine zr_getR (pc := 49) hV 5 272 dX1_priceBy_49 fX1_21 rfl rfl (zc_k255 zc_s255) (zc_pos zc_s255 rfl) (zc_g255_5 hσ zc_s255) (by decide) ?_
    refine zr_iload (pc := 52) hV dX1_priceBy_52 rfl ?_
    refine zr_iald (pc := 54) hV dX1_priceBy_54 (zc_k272 zc_s272) (zc_pos zc_s272 rfl) rfl (by omega) ?_
    have t15 := zc_ga272 hσ zc_s272 (σ (o1 + 4) node)
    refine zr_iadd (pc := 55) hV dX1_priceBy_55 ?_
    refine zr_any (pc := 56) hV (fun y56 hy56 _ => ?_)
    refine zr_istore (pc := 56) hV [some (ZR 255), some (ZR order), some (ZI node), some (ZI moveTicks), some (ZI (σ (o1 + 3) node)), some (ZI (σ (o1 + 4) node)), some (ZI y56)] dX1_priceBy_56 (by decide) rfl rfl ?_
    refine zr_goto (pc := 58) hV 93 dX1_priceBy_58 (by decide) ?_
    refine zr_sub (pc := 93) hV [some (ZR 255), some (ZR order), none, some (ZI moveTicks), some (ZI (σ (o1 + 3) node)), none, some (ZI y56)] (⟨rfl, rfl, rfl, rfl, rfl, trivial⟩) ?_
    exact J93 y56 (by omega)
set_option maxHeartbeats 800000 in
theorem c_X1_findSignPrice {σ : zq_S} (hσ : zc_T σ) (node : Int) (moveTicks : Int) (q0 : 0 ≤ node ∧ node ≤ 38) (q1 : zq_in moveTicks) : zq_C zc_w yX1_findSignPrice cX1_findSignPrice 6 (none) 4 88 284 284 [ZR 255, ZI node, ZI moveTicks] σ (zq_pv (fun τ => zc_T τ ∧ zc_Fr [(272, -1), (273, -1)] σ τ ∧ (True))) := by
  refine zq_C_of (by decide) (Nat.le_refl _) (Nat.le_of_ble_eq_true rfl) [some (ZR 255), some (ZI node), some (ZI moveTicks), none, none, none] rfl (fun V hV => ?_)
  have hFσ := zc_Fr_rf [(272, -1), (273, -1)] σ
  show V 0 [some (ZR 255), some (ZI node), some (ZI moveTicks), none, none, none] [] 284 σ
  refine zr_aload_n (pc := 0) hV dX1_findSignPrice_0 rfl rfl ?_
  refine zr_getR (pc := 1) hV 5 272 dX1_findSignPrice_1 fX1_21 rfl rfl (zc_k255 zc_s255) (zc_pos zc_s255 rfl) (zc_g255_5 hσ zc_s255) (by decide) ?_
  refine zr_iload_n (pc := 4) hV dX1_findSignPrice_4 rfl rfl ?_
  refine zr_ldc (pc := 5) (v := 1000000) hV 1000000 dX1_findSignPrice_5 kX1_86 (by decide) ?_
  refine zr_iast (pc := 7) hV dX1_findSignPrice_7 (zc_k272 zc_s272) (zc_pos zc_s272 rfl) rfl (by omega) (fun σ7 eσ7 => ?_)
  have hσ7 : zc_T σ7 := zc_ua272 eσ7 hσ zc_s272 (by omega)
  have hFσ7 := zc_Fa eσ7 zc_s272 rfl hFσ
  refine zr_aload_n (pc := 8) hV dX1_findSignPrice_8 rfl rfl ?_
  refine zr_getR (pc := 9) hV 6 273 dX1_findSignPrice_9 fX1_25 rfl rfl (zc_k255 zc_s255) (zc_pos zc_s255 rfl) (zc_g255_6 hσ7 zc_s255) (by decide) ?_
  refine zr_iload_n (pc := 12) hV dX1_findSignPrice_12 rfl rfl ?_
  refine zr_iconst (pc := 13) hV (-1) dX1_findSignPrice_13 rfl ?_
  refine zr_iast (pc := 14) hV dX1_findSignPrice_14 (zc_k273 zc_s273) (zc_pos zc_s273 rfl) rfl (by omega) (fun σ14 eσ14 => ?_)
  have hσ14 : zc_T σ14 := zc_ua273 eσ14 hσ7 zc_s273 (by omega)
  have hFσ14 := zc_Fa eσ14 zc_s273 rfl hFσ7
  refine zr_iconst (pc := 15) hV 0 dX1_findSignPrice_15 rfl ?_
  refine zr_istore_n (pc := 16) hV [some (ZR 255), some (ZI node), some (ZI moveTicks), some (ZI 0), none, none] dX1_findSignPrice_16 rfl (by decide) rfl rfl ?_
  have L17 : ∀ (fuel : Nat) (x3_17 : Int) (σ_17 : zq_S), (0 ≤ x3_17 ∧ x3_17 ≤ 20) → (zc_T σ_17) → (zc_Fr [(272, -1), (273, -1)] σ σ_17) → 20 - x3_17 < (fuel : Int) → V 17 [some (ZR 255), some (ZI node), some (ZI moveTicks), some (ZI x3_17), none, none] [] 284 σ_17 := by
    intro fuel
    induction fuel with
    | zero =>
      intro x3_17 σ_17 hx3_17 hσ_17 hFσ_17 hm17
      exfalso; omega
    | succ fuel ih =>
      intro x3_17 σ_17 hx3_17 hσ_17 hFσ_17 hm17
      have ih17 := ih
      show V 17 [some (ZR 255), some (ZI node), some (ZI moveTicks), some (ZI x3_17), none, none] [] 284 σ_17
      refine zr_iload_n (pc := 17) hV dX1_findSignPrice_17 rfl rfl ?_
      refine zr_aload_n (pc := 18) hV dX1_findSignPrice_18 rfl rfl ?_
      refine zr_getR (pc := 19) hV 0 3 dX1_findSignPrice_19 fX1_34 rfl rfl (zc_k255 zc_s255) (zc_pos zc_s255 rfl) (zc_g255_0 hσ_17 zc_s255) (by decide) ?_
      refine zr_getI (pc := 22) hV 3 dX1_findSignPrice_22 fX1_99 rfl rfl (zc_k3 zc_s3) (zc_pos zc_s3 rfl) ?_
      have t1 := zc_g3_3 hσ_17 zc_s3
      have t2 : σ_17 3 3 = σ 3 3 := hFσ_17 _ _ (zc_out_at zc_s3 rfl)
      refine zr_icmp_ge (pc := 25) hV 109 dX1_findSignPrice_25 (by decide) (by omega) (by omega) (fun c3 => ?_) (fun c3 => ?_)
      · show V 109 [some (ZR 255), some (ZI node), some (ZI moveTicks), some (ZI x3_17), none, none] [] 284 σ_17
        exact zr_vret (pc := 109) hV dX1_findSignPrice_109 rfl rfl ⟨rfl, hσ_17, hFσ_17, trivial⟩
      · show V 28 [some (ZR 255), some (ZI node), some (ZI moveTicks), some (ZI x3_17), none, none] [] 284 σ_17
        refine zr_aload_n (pc := 28) hV dX1_findSignPrice_28 rfl rfl ?_
        refine zr_getR (pc := 29) hV 0 3 dX1_findSignPrice_29 fX1_34 rfl rfl (zc_k255 zc_s255) (zc_pos zc_s255 rfl) (zc_g255_0 hσ_17 zc_s255) (by decide) ?_
        refine zr_getR (pc := 32) hV 6 10 dX1_findSignPrice_32 fX1_101 rfl rfl (zc_k3 zc_s3) (zc_pos zc_s3 rfl) (zc_g3_6 hσ_17 zc_s3) (by decide) ?_
        refine zr_iload_n (pc := 35) hV dX1_findSignPrice_35 rfl rfl ?_
        have ga36 : zc_kd (σ_17 10 x3_17) = 4 := zc_ga10 hσ_17 zc_s10 x3_17 (by omega) (by omega)
        refine zr_aald (pc := 36) hV dX1_findSignPrice_36 (zc_k10 zc_s10) (Or.inl rfl) (zc_pos zc_s10 rfl) rfl (by omega) (zc_pos ga36 rfl).1 ?_
        obtain ⟨o36, eo36⟩ : ∃ o, σ_17 10 x3_17 = o := ⟨_, rfl⟩
        rw [eo36] at ga36 ⊢
        have ko36 := ga36
        have po36 := zc_pos ko36 rfl
        show V 37 [some (ZR 255), some (ZI node), some (ZI moveTicks), some (ZI x3_17), none, none] [ZR o36] 284 σ_17
        refine zr_astore (pc := 37) hV [some (ZR 255), some (ZI node), some (ZI moveTicks), some (ZI x3_17), some (ZR o36), none] dX1_findSignPrice_37 (by decide) rfl rfl ?_
        refine zr_aload (pc := 39) hV dX1_findSignPrice_39 rfl ?_
        refine zr_getI (pc := 41) hV 14 dX1_findSignPrice_41 fX1_105 rfl rfl (zc_k4 ko36) (zc_pos ko36 rfl) ?_
        have t4 := zc_g4_14 hσ_17 ko36
        have t5 : σ_17 o36 14 = σ o36 14 := hFσ_17 _ _ (zc_out_at ko36 rfl)
        refine zr_iconst (pc := 44) hV 3 dX1_findSignPrice_44 rfl ?_
        refine zr_icmp_lt (pc := 45) hV 103 dX1_findSignPrice_45 (by decide) (by omega) ⟨by decide, by decide⟩ (fun c6 => ?_) (fun c6 => ?_)
        · show V 103 [some (ZR 255), some (ZI node), some (ZI moveTicks), some (ZI x3_17), some (ZR o36), none] [] 284 σ_17
          refine zr_iinc (pc := 103) hV [some (ZR 255), some (ZI node), some (ZI moveTicks), some (ZI (x3_17 + 1)), some (ZR o36), none] (x3_17 + 1) dX1_findSignPrice_103 rfl rfl (by decide) rfl rfl ?_
          refine zr_goto (pc := 106) hV 17 dX1_findSignPrice_106 (by decide) ?_
          refine zr_sub (pc := 17) hV [some (ZR 255), some (ZI node), some (ZI moveTicks), some (ZI (x3_17 + 1)), none, none] (⟨rfl, rfl, rfl, rfl, trivial⟩) ?_
          exact ih17 (x3_17 + 1) σ_17 (by omega) hσ_17 hFσ_17 (by omega)
        · show V 48 [some (ZR 255), some (ZI node), some (ZI moveTicks), some (ZI x3_17), some (ZR o36), none] [] 284 σ_17
          refine zr_aload (pc := 48) hV dX1_findSignPrice_48 rfl ?_
          refine zr_getR (pc := 50) hV 9 (o36 + 4) dX1_findSignPrice_50 fX1_112 rfl rfl (zc_k4 ko36) (zc_pos ko36 rfl) (zc_g4_9 hσ_17 ko36) (zc_pos (zc_p4_4 ko36) rfl).1 ?_
          refine zr_iconst (pc := 53) hV 0 dX1_findSignPrice_53 rfl ?_
          refine zr_iald (pc := 54) hV dX1_findSignPrice_54 (zc_k8 (zc_p4_4 ko36)) (zc_pos (zc_p4_4 ko36) rfl) rfl (by omega) ?_
          have t7 := zc_ga8 hσ_17 (zc_p4_4 ko36) 0
          have t8 : σ_17 (o36 + 4) 0 = σ (o36 + 4) 0 := hFσ_17 _ _ (zc_out_ar (zc_p4_4 ko36) rfl)
          refine zr_aload_n (pc := 55) hV dX1_findSignPrice_55 rfl rfl ?_
          have t9 : σ_17 255 1 = σ 255 1 := hFσ_17 _ _ (zc_out_at zc_s255 rfl)
          obtain ⟨o56, eo56⟩ : ∃ o, σ 255 1 = o := ⟨_, rfl⟩
          have ko56 : zc_kd o56 = 256 := eo56 ▸ zc_g255_1 hσ zc_s255
          have po56 := zc_pos ko56 rfl
          refine zr_getR (pc := 56) hV 1 o56 dX1_findSignPrice_56 fX1_12 rfl rfl (zc_k255 zc_s255) (zc_pos zc_s255 rfl) (by omega) (zc_pos ko56 rfl).1 ?_
          refine zr_getR (pc := 59) hV 0 (o56 + 1) dX1_findSignPrice_59 fX1_115 rfl rfl (zc_k256 ko56) (zc_pos ko56 rfl) (zc_g256_0 hσ_17 ko56) (zc_pos (zc_p256_1 ko56) rfl).1 ?_
          refine zr_iload_n (pc := 62) hV dX1_findSignPrice_62 rfl rfl ?_
          refine zr_iald (pc := 63) hV dX1_findSignPrice_63 (zc_k257 (zc_p256_1 ko56)) (zc_pos (zc_p256_1 ko56) rfl) rfl (by omega) ?_
          have t10 := zc_ga257 hσ_17 (zc_p256_1 ko56) node
          have t11 : σ_17 (o56 + 1) node = σ (o56 + 1) node := hFσ_17 _ _ (zc_out_ar (zc_p256_1 ko56) rfl)
          refine zr_icmp_ne (pc := 64) hV 103 dX1_findSignPrice_64 (by decide) (by omega) (by omega) (fun c12 => ?_) (fun c12 => ?_)
          · show V 103 [some (ZR 255), some (ZI node), some (ZI moveTicks), some (ZI x3_17), some (ZR o36), none] [] 284 σ_17
            refine zr_iinc (pc := 103) hV [some (ZR 255), some (ZI node), some (ZI moveTicks), some (ZI (x3_17 + 1)), some (ZR o36), none] (x3_17 + 1) dX1_findSignPrice_103 rfl rfl (by decide) rfl rfl ?_
            refine zr_goto (pc := 106) hV 17 dX1_findSignPrice_106 (by decide) ?_
            refine zr_sub (pc := 17) hV [some (ZR 255), some (ZI node), some (ZI moveTicks), some (ZI (x3_17 + 1)), none, none] (⟨rfl, rfl, rfl, rfl, trivial⟩) ?_
            exact ih17 (x3_17 + 1) σ_17 (by omega) hσ_17 hFσ_17 (by omega)
          · show V 67 [some (ZR 255), some (ZI node), some (ZI moveTicks), some (ZI x3_17), some (ZR o36), none] [] 284 σ_17
            refine zr_aload_n (pc := 67) hV dX1_findSignPrice_67 rfl rfl ?_
            refine zr_aload (pc := 68) hV dX1_findSignPrice_68 rfl ?_
            refine zr_iload_n (pc := 70) hV dX1_findSignPrice_70 rfl rfl ?_
            refine zr_iload_n (pc := 71) hV dX1_findSignPrice_71 rfl rfl ?_
            refine zr_callVp (pc := 72) hV [ZR o36, ZI node, ZI moveTicks] (st := []) (c_X1_priceBy (σ := σ_17) hσ_17 o36 ko36 node moveTicks (by omega) (by omega)) dX1_findSignPrice_72 mX1_118 (zc_k255 zc_s255) (zc_pos zc_s255 rfl) (by decide) (Nat.le_of_ble_eq_true rfl) (Nat.le_refl _) (fun r72 hr72 pr72 => ?_)
            refine zr_istore (pc := 75) hV [some (ZR 255), some (ZI node), some (ZI moveTicks), some (ZI x3_17), some (ZR o36), some (ZI r72)] dX1_findSignPrice_75 (by decide) rfl rfl ?_
            refine zr_iload (pc := 77) hV dX1_findSignPrice_77 rfl ?_
            refine zr_aload_n (pc := 79) hV dX1_findSignPrice_79 rfl rfl ?_
            refine zr_getR (pc := 80) hV 5 272 dX1_findSignPrice_80 fX1_21 rfl rfl (zc_k255 zc_s255) (zc_pos zc_s255 rfl) (zc_g255_5 hσ_17 zc_s255) (by decide) ?_
            refine zr_iload_n (pc := 83) hV dX1_findSignPrice_83 rfl rfl ?_
            refine zr_iald (pc := 84) hV dX1_findSignPrice_84 (zc_k272 zc_s272) (zc_pos zc_s272 rfl) rfl (by omega) ?_
            have t13 := zc_ga272 hσ_17 zc_s272 node
            refine zr_icmp_ge (pc := 85) hV 103 dX1_findSignPrice_85 (by decide) (by omega) (by omega) (fun c14 => ?_) (fun c14 => ?_)
            · show V 103 [some (ZR 255), some (ZI node), some (ZI moveTicks), some (ZI x3_17), some (ZR o36), some (ZI r72)] [] 284 σ_17
              refine zr_iinc (pc := 103) hV [some (ZR 255), some (ZI node), some (ZI moveTicks), some (ZI (x3_17 + 1)), some (ZR o36), some (ZI r72)] (x3_17 + 1) dX1_findSignPrice_103 rfl rfl (by decide) rfl rfl ?_
              refine zr_goto (pc := 106) hV 17 dX1_findSignPrice_106 (by decide) ?_
              refine zr_sub (pc := 17) hV [some (ZR 255), some (ZI node), some (ZI moveTicks), some (ZI (x3_17 + 1)), none, none] (⟨rfl, rfl, rfl, rfl, trivial⟩) ?_
              exact ih17 (x3_17 + 1) σ_17 (by omega) hσ_17 hFσ_17 (by omega)
            · show V 88 [some (ZR 255), some (ZI node), some (ZI moveTicks), some (ZI x3_17), some (ZR o36), some (ZI r72)] [] 284 σ_17
              refine zr_aload_n (pc := 88) hV dX1_findSignPrice_88 rfl rfl ?_
              refine zr_getR (pc := 89) hV 5 272 dX1_findSignPrice_89 fX1_21 rfl rfl (zc_k255 zc_s255) (zc_pos zc_s255 rfl) (zc_g255_5 hσ_17 zc_s255) (by decide) ?_
              refine zr_iload_n (pc := 92) hV dX1_findSignPrice_92 rfl rfl ?_
              refine zr_iload (pc := 93) hV dX1_findSignPrice_93 rfl ?_
              refine zr_iast (pc := 95) hV dX1_findSignPrice_95 (zc_k272 zc_s272) (zc_pos zc_s272 rfl) rfl (by omega) (fun σ95 eσ95 => ?_)
              have hσ95 : zc_T σ95 := zc_ua272 eσ95 hσ_17 zc_s272 (by omega)
              have hFσ95 := zc_Fa eσ95 zc_s272 rfl hFσ_17
              refine zr_aload_n (pc := 96) hV dX1_findSignPrice_96 rfl rfl ?_
              refine zr_getR (pc := 97) hV 6 273 dX1_findSignPrice_97 fX1_25 rfl rfl (zc_k255 zc_s255) (zc_pos zc_s255 rfl) (zc_g255_6 hσ95 zc_s255) (by decide) ?_
              refine zr_iload_n (pc := 100) hV dX1_findSignPrice_100 rfl rfl ?_
              refine zr_iload_n (pc := 101) hV dX1_findSignPrice_101 rfl rfl ?_
              refine zr_iast (pc := 102) hV dX1_findSignPrice_102 (zc_k273 zc_s273) (zc_pos zc_s273 rfl) rfl (by omega) (fun σ102 eσ102 => ?_)
              have hσ102 : zc_T σ102 := zc_ua273 eσ102 hσ95 zc_s273 (by omega)
              have hFσ102 := zc_Fa eσ102 zc_s273 rfl hFσ95
              show V 103 [some (ZR 255), some (ZI node), some (ZI moveTicks), some (ZI x3_17), some (ZR o36), some (ZI r72)] [] 284 σ102
              refine zr_iinc (pc := 103) hV [some (ZR 255), some (ZI node), some (ZI moveTicks), some (ZI (x3_17 + 1)), some (ZR o36), some (ZI r72)] (x3_17 + 1) dX1_findSignPrice_103 rfl rfl (by decide) rfl rfl ?_
              refine zr_goto (pc := 106) hV 17 dX1_findSignPrice_106 (by decide) ?_
              refine zr_sub (pc := 17) hV [some (ZR 255), some (ZI node), some (ZI moveTicks), some (ZI (x3_17 + 1)), none, none] (⟨rfl, rfl, rfl, rfl, trivial⟩) ?_
              exact ih17 (x3_17 + 1) σ102 (by omega) hσ102 hFσ102 (by omega)
  exact L17 (20 - (0 : Int) + 1 : Int).toNat 0 σ14 (by omega) hσ14 hFσ14 (by omega)
set_option maxHeartbeats 800000 in
theorem c_X1_priceOfSum {σ : zq_S} (hσ : zc_T σ)   (Nσ : zc_N σ) : zq_C zc_w yX1_priceOfSum cX1_priceOfSum 3 (some .int) 5 113 284 284 [ZR 255] σ (zq_pi (fun r τ => zc_T τ ∧ zc_Fr [(272, -1), (273, -1)] σ τ ∧ (True) ∧ zc_N τ)) := by
  refine zq_C_of (by decide) (Nat.le_refl _) (Nat.le_of_ble_eq_true rfl) [some (ZR 255), none, none] rfl (fun V hV => ?_)
  have hFσ := zc_Fr_rf [(272, -1), (273, -1)] σ
  obtain ⟨told, etold⟩ : ∃ o, σ 255 1 = o := ⟨_, rfl⟩
  have ktold : zc_kd told = 256 := etold ▸ zc_g255_1 hσ zc_s255
  have potold := zc_pos ktold rfl
  have hN := Nσ
  unfold zc_N at hN
  rw [etold] at hN
  show V 0 [some (ZR 255), none, none] [] 284 σ
  refine zr_aload_n (pc := 0) hV dX1_priceOfSum_0 rfl rfl ?_
  refine zr_aload_n (pc := 1) hV dX1_priceOfSum_1 rfl rfl ?_
  refine zr_callVp (pc := 2) hV [] (st := [ZR 255]) (c_X1_leastMove (σ := σ) hσ) dX1_priceOfSum_2 mX1_56 (zc_k255 zc_s255) (zc_pos zc_s255 rfl) (by decide) (Nat.le_of_ble_eq_true rfl) (Nat.le_refl _) (fun r2 hr2 pr2 => ?_)
  refine zr_callVp (pc := 5) hV [ZI r2] (st := []) (c_X1_ticksOf (σ := σ) hσ r2 (by omega)) dX1_priceOfSum_5 mX1_59 (zc_k255 zc_s255) (zc_pos zc_s255 rfl) (by decide) (Nat.le_of_ble_eq_true rfl) (Nat.le_refl _) (fun r5 hr5 pr5 => ?_)
  refine zr_istore_n (pc := 8) hV [some (ZR 255), some (ZI r5), none] dX1_priceOfSum_8 rfl (by decide) rfl rfl ?_
  refine zr_iconst (pc := 9) hV 0 dX1_priceOfSum_9 rfl ?_
  refine zr_istore_n (pc := 10) hV [some (ZR 255), some (ZI r5), some (ZI 0)] dX1_priceOfSum_10 rfl (by decide) rfl rfl ?_
  have L11 : ∀ (fuel : Nat) (x2_11 : Int) (σ_11 : zq_S), (0 ≤ x2_11 ∧ x2_11 ≤ 39) → (zc_T σ_11) → (zc_Fr [(272, -1), (273, -1)] σ σ_11) → (zc_N σ_11) → 39 - x2_11 < (fuel : Int) → V 11 [some (ZR 255), some (ZI r5), some (ZI x2_11)] [] 284 σ_11 := by
    intro fuel
    induction fuel with
    | zero =>
      intro x2_11 σ_11 hx2_11 hσ_11 hFσ_11 Nσ_11 hm11
      exfalso; omega
    | succ fuel ih =>
      intro x2_11 σ_11 hx2_11 hσ_11 hFσ_11 Nσ_11 hm11
      have ih11 := ih
      show V 11 [some (ZR 255), some (ZI r5), some (ZI x2_11)] [] 284 σ_11
      refine zr_iload_n (pc := 11) hV dX1_priceOfSum_11 rfl rfl ?_
      refine zr_aload_n (pc := 12) hV dX1_priceOfSum_12 rfl rfl ?_
      have t1 : σ_11 255 1 = σ 255 1 := hFσ_11 _ _ (zc_out_at zc_s255 rfl)
      refine zr_getR (pc := 13) hV 1 told dX1_priceOfSum_13 fX1_12 rfl rfl (zc_k255 zc_s255) (zc_pos zc_s255 rfl) (by omega) (zc_pos ktold rfl).1 ?_
      refine zr_getI (pc := 16) hV 5 dX1_priceOfSum_16 fX1_63 rfl rfl (zc_k256 ktold) (zc_pos ktold rfl) ?_
      have t2 := zc_g256_5 hσ_11 ktold
      have t3 : σ_11 told 5 = σ told 5 := hFσ_11 _ _ (zc_out_at ktold rfl)
      refine zr_icmp_ge (pc := 19) hV 111 dX1_priceOfSum_19 (by decide) (by omega) (by omega) (fun c4 => ?_) (fun c4 => ?_)
      · show V 111 [some (ZR 255), some (ZI r5), some (ZI x2_11)] [] 284 σ_11
        refine zr_aload_n (pc := 111) hV dX1_priceOfSum_111 rfl rfl ?_
        have t5 : σ_11 255 1 = σ 255 1 := hFσ_11 _ _ (zc_out_at zc_s255 rfl)
        refine zr_getR (pc := 112) hV 1 told dX1_priceOfSum_112 fX1_12 rfl rfl (zc_k255 zc_s255) (zc_pos zc_s255 rfl) (by omega) (zc_pos ktold rfl).1 ?_
        refine zr_aload_n (pc := 115) hV dX1_priceOfSum_115 rfl rfl ?_
        have t6 : σ_11 255 1 = σ 255 1 := hFσ_11 _ _ (zc_out_at zc_s255 rfl)
        refine zr_getR (pc := 116) hV 1 told dX1_priceOfSum_116 fX1_12 rfl rfl (zc_k255 zc_s255) (zc_pos zc_s255 rfl) (by omega) (zc_pos ktold rfl).1 ?_
        refine zr_callVp (pc := 119) hV [] (st := [ZR told]) (c_X7_root (σ := σ_11) hσ_11 told ktold) dX1_priceOfSum_119 mX1_83 (zc_k256 ktold) (zc_pos ktold rfl) (by decide) (Nat.le_of_ble_eq_true rfl) (Nat.le_refl _) (fun r119 hr119 pr119 => ?_)
        have t7 := zc_g256_5 hσ_11 ktold
        have t8 : σ_11 told 5 = σ told 5 := hFσ_11 _ _ (zc_out_at ktold rfl)
        refine zr_callVp (pc := 122) hV [ZI r119] (st := []) (c_X7_isVariable (σ := σ_11) hσ_11 told ktold r119 (by omega)) dX1_priceOfSum_122 mX1_66 (zc_k256 ktold) (zc_pos ktold rfl) (by decide) (Nat.le_of_ble_eq_true rfl) (Nat.le_refl _) (fun r122 hr122 pr122 => ?_)
        refine zr_if_eq (pc := 125) hV 132 dX1_priceOfSum_125 (by decide) (by omega) (fun c9 => ?_) (fun c9 => ?_)
        · show V 132 [some (ZR 255), some (ZI r5), some (ZI x2_11)] [] 284 σ_11
          refine zr_aload_n (pc := 132) hV dX1_priceOfSum_132 rfl rfl ?_
          refine zr_getR (pc := 133) hV 5 272 dX1_priceOfSum_133 fX1_21 rfl rfl (zc_k255 zc_s255) (zc_pos zc_s255 rfl) (zc_g255_5 hσ_11 zc_s255) (by decide) ?_
          refine zr_aload_n (pc := 136) hV dX1_priceOfSum_136 rfl rfl ?_
          have t10 : σ_11 255 1 = σ 255 1 := hFσ_11 _ _ (zc_out_at zc_s255 rfl)
          refine zr_getR (pc := 137) hV 1 told dX1_priceOfSum_137 fX1_12 rfl rfl (zc_k255 zc_s255) (zc_pos zc_s255 rfl) (by omega) (zc_pos ktold rfl).1 ?_
          refine zr_callVp (pc := 140) hV [] (st := [ZR 272]) (c_X7_root (σ := σ_11) hσ_11 told ktold) dX1_priceOfSum_140 mX1_83 (zc_k256 ktold) (zc_pos ktold rfl) (by decide) (Nat.le_of_ble_eq_true rfl) (Nat.le_refl _) (fun r140 hr140 pr140 => ?_)
          have t11 := zc_g256_5 hσ_11 ktold
          have t12 : σ_11 told 5 = σ told 5 := hFσ_11 _ _ (zc_out_at ktold rfl)
          refine zr_iald (pc := 143) hV dX1_priceOfSum_143 (zc_k272 zc_s272) (zc_pos zc_s272 rfl) rfl (by omega) ?_
          have t13 := zc_ga272 hσ_11 zc_s272 r140
          show V 144 [some (ZR 255), some (ZI r5), some (ZI x2_11)] [ZI (σ_11 272 r140)] 284 σ_11
          refine zr_istore_n (pc := 144) hV [some (ZR 255), some (ZI r5), some (ZI (σ_11 272 r140))] dX1_priceOfSum_144 rfl (by decide) rfl rfl ?_
          refine zr_iload_n (pc := 145) hV dX1_priceOfSum_145 rfl rfl ?_
          refine zr_ldc (pc := 146) (v := 1000000) hV 1000000 dX1_priceOfSum_146 kX1_86 (by decide) ?_
          refine zr_icmp_ge (pc := 148) hV 155 dX1_priceOfSum_148 (by decide) (by omega) ⟨by decide, by decide⟩ (fun c14 => ?_) (fun c14 => ?_)
          · show V 155 [some (ZR 255), some (ZI r5), some (ZI (σ_11 272 r140))] [] 284 σ_11
            refine zr_bipush (pc := 155) hV (-4) dX1_priceOfSum_155 (by decide) ?_
            show V 157 [some (ZR 255), some (ZI r5), some (ZI (σ_11 272 r140))] [ZI (-4)] 284 σ_11
            exact zr_iret (pc := 157) hV dX1_priceOfSum_157 rfl rfl ⟨_, rfl, ⟨by decide, by decide⟩, hσ_11, hFσ_11, trivial, Nσ_11⟩
          · show V 151 [some (ZR 255), some (ZI r5), some (ZI (σ_11 272 r140))] [] 284 σ_11
            refine zr_iload_n (pc := 151) hV dX1_priceOfSum_151 rfl rfl ?_
            refine zr_goto (pc := 152) hV 157 dX1_priceOfSum_152 (by decide) ?_
            show V 157 [some (ZR 255), some (ZI r5), some (ZI (σ_11 272 r140))] [ZI (σ_11 272 r140)] 284 σ_11
            exact zr_iret (pc := 157) hV dX1_priceOfSum_157 rfl rfl ⟨_, rfl, (by omega), hσ_11, hFσ_11, trivial, Nσ_11⟩
        · show V 128 [some (ZR 255), some (ZI r5), some (ZI x2_11)] [] 284 σ_11
          refine zr_iload_n (pc := 128) hV dX1_priceOfSum_128 rfl rfl ?_
          refine zr_goto (pc := 129) hV 144 dX1_priceOfSum_129 (by decide) ?_
          show V 144 [some (ZR 255), some (ZI r5), some (ZI x2_11)] [ZI r5] 284 σ_11
          refine zr_istore_n (pc := 144) hV [some (ZR 255), some (ZI r5), some (ZI r5)] dX1_priceOfSum_144 rfl (by decide) rfl rfl ?_
          refine zr_iload_n (pc := 145) hV dX1_priceOfSum_145 rfl rfl ?_
          refine zr_ldc (pc := 146) (v := 1000000) hV 1000000 dX1_priceOfSum_146 kX1_86 (by decide) ?_
          refine zr_icmp_ge (pc := 148) hV 155 dX1_priceOfSum_148 (by decide) (by omega) ⟨by decide, by decide⟩ (fun c15 => ?_) (fun c15 => ?_)
          · show V 155 [some (ZR 255), some (ZI r5), some (ZI r5)] [] 284 σ_11
            refine zr_bipush (pc := 155) hV (-4) dX1_priceOfSum_155 (by decide) ?_
            show V 157 [some (ZR 255), some (ZI r5), some (ZI r5)] [ZI (-4)] 284 σ_11
            exact zr_iret (pc := 157) hV dX1_priceOfSum_157 rfl rfl ⟨_, rfl, ⟨by decide, by decide⟩, hσ_11, hFσ_11, trivial, Nσ_11⟩
          · show V 151 [some (ZR 255), some (ZI r5), some (ZI r5)] [] 284 σ_11
            refine zr_iload_n (pc := 151) hV dX1_priceOfSum_151 rfl rfl ?_
            refine zr_goto (pc := 152) hV 157 dX1_priceOfSum_152 (by decide) ?_
            show V 157 [some (ZR 255), some (ZI r5), some (ZI r5)] [ZI r5] 284 σ_11
            exact zr_iret (pc := 157) hV dX1_priceOfSum_157 rfl rfl ⟨_, rfl, (by omega), hσ_11, hFσ_11, trivial, Nσ_11⟩
      · show V 22 [some (ZR 255), some (ZI r5), some (ZI x2_11)] [] 284 σ_11
        refine zr_aload_n (pc := 22) hV dX1_priceOfSum_22 rfl rfl ?_
        have t16 : σ_11 255 1 = σ 255 1 := hFσ_11 _ _ (zc_out_at zc_s255 rfl)
        refine zr_getR (pc := 23) hV 1 told dX1_priceOfSum_23 fX1_12 rfl rfl (zc_k255 zc_s255) (zc_pos zc_s255 rfl) (by omega) (zc_pos ktold rfl).1 ?_
        refine zr_iload_n (pc := 26) hV dX1_priceOfSum_26 rfl rfl ?_
        refine zr_callVp (pc := 27) hV [ZI x2_11] (st := []) (c_X7_isVariable (σ := σ_11) hσ_11 told ktold x2_11 (by omega)) dX1_priceOfSum_27 mX1_66 (zc_k256 ktold) (zc_pos ktold rfl) (by decide) (Nat.le_of_ble_eq_true rfl) (Nat.le_refl _) (fun r27 hr27 pr27 => ?_)
        refine zr_if_eq (pc := 30) hV 50 dX1_priceOfSum_30 (by decide) (by omega) (fun c17 => ?_) (fun c17 => ?_)
        · show V 50 [some (ZR 255), some (ZI r5), some (ZI x2_11)] [] 284 σ_11
          refine zr_aload_n (pc := 50) hV dX1_priceOfSum_50 rfl rfl ?_
          have t18 : σ_11 255 1 = σ 255 1 := hFσ_11 _ _ (zc_out_at zc_s255 rfl)
          refine zr_getR (pc := 51) hV 1 told dX1_priceOfSum_51 fX1_12 rfl rfl (zc_k255 zc_s255) (zc_pos zc_s255 rfl) (by omega) (zc_pos ktold rfl).1 ?_
          refine zr_iload_n (pc := 54) hV dX1_priceOfSum_54 rfl rfl ?_
          refine zr_callVp (pc := 55) hV [ZI x2_11] (st := []) (c_X7_isLiteral (σ := σ_11) hσ_11 told ktold x2_11 (by omega)) dX1_priceOfSum_55 mX1_70 (zc_k256 ktold) (zc_pos ktold rfl) (by decide) (Nat.le_of_ble_eq_true rfl) (Nat.le_refl _) (fun r55 hr55 pr55 => ?_)
          refine zr_if_eq (pc := 58) hV 99 dX1_priceOfSum_58 (by decide) (by omega) (fun c19 => ?_) (fun c19 => ?_)
          · show V 99 [some (ZR 255), some (ZI r5), some (ZI x2_11)] [] 284 σ_11
            refine zr_aload_n (pc := 99) hV dX1_priceOfSum_99 rfl rfl ?_
            refine zr_iload_n (pc := 100) hV dX1_priceOfSum_100 rfl rfl ?_
            refine zr_iload_n (pc := 101) hV dX1_priceOfSum_101 rfl rfl ?_
            refine zr_callVv (pc := 102) hV [ZI x2_11, ZI r5] (st := []) (c_X1_findSignPrice (σ := σ_11) hσ_11 x2_11 r5 (by omega) (by omega)) dX1_priceOfSum_102 mX1_79 (zc_k255 zc_s255) (zc_pos zc_s255 rfl) (by decide) (Nat.le_of_ble_eq_true rfl) (Nat.le_refl _) (fun σ102 pσ102 => ?_)
            obtain ⟨hσ102, hfσ102, pσ102⟩ := pσ102
            have hFσ102 := zc_Fc hfσ102 rfl hFσ_11
            have Nσ102 : zc_N σ102 := zc_N_fr hfσ102 rfl hσ_11 Nσ_11
            show V 105 [some (ZR 255), some (ZI r5), some (ZI x2_11)] [] 284 σ102
            refine zr_iinc (pc := 105) hV [some (ZR 255), some (ZI r5), some (ZI (x2_11 + 1))] (x2_11 + 1) dX1_priceOfSum_105 rfl rfl (by decide) rfl rfl ?_
            refine zr_goto (pc := 108) hV 11 dX1_priceOfSum_108 (by decide) ?_
            exact ih11 (x2_11 + 1) σ102 (by omega) hσ102 hFσ102 Nσ102 (by omega)
          · show V 61 [some (ZR 255), some (ZI r5), some (ZI x2_11)] [] 284 σ_11
            refine zr_aload_n (pc := 61) hV dX1_priceOfSum_61 rfl rfl ?_
            refine zr_getR (pc := 62) hV 6 273 dX1_priceOfSum_62 fX1_25 rfl rfl (zc_k255 zc_s255) (zc_pos zc_s255 rfl) (zc_g255_6 hσ_11 zc_s255) (by decide) ?_
            refine zr_iload_n (pc := 65) hV dX1_priceOfSum_65 rfl rfl ?_
            refine zr_aload_n (pc := 66) hV dX1_priceOfSum_66 rfl rfl ?_
            refine zr_aload_n (pc := 67) hV dX1_priceOfSum_67 rfl rfl ?_
            have t20 : σ_11 255 1 = σ 255 1 := hFσ_11 _ _ (zc_out_at zc_s255 rfl)
            refine zr_getR (pc := 68) hV 1 told dX1_priceOfSum_68 fX1_12 rfl rfl (zc_k255 zc_s255) (zc_pos zc_s255 rfl) (by omega) (zc_pos ktold rfl).1 ?_
            refine zr_getR (pc := 71) hV 1 (told + 2) dX1_priceOfSum_71 fX1_73 rfl rfl (zc_k256 ktold) (zc_pos ktold rfl) (zc_g256_1 hσ_11 ktold) (zc_pos (zc_p256_2 ktold) rfl).1 ?_
            refine zr_iload_n (pc := 74) hV dX1_priceOfSum_74 rfl rfl ?_
            refine zr_iald (pc := 75) hV dX1_priceOfSum_75 (zc_k258 (zc_p256_2 ktold)) (zc_pos (zc_p256_2 ktold) rfl) rfl (by omega) ?_
            have t21 := zc_ga258 hσ_11 (zc_p256_2 ktold) x2_11
            have t22 : σ_11 (told + 2) x2_11 = σ (told + 2) x2_11 := hFσ_11 _ _ (zc_out_ar (zc_p256_2 ktold) rfl)
            refine zr_callVp (pc := 76) hV [ZI (σ_11 (told + 2) x2_11)] (st := [ZI x2_11, ZR 273]) (c_X1_leastLoad (σ := σ_11) hσ_11 (σ_11 (told + 2) x2_11) (by omega)) dX1_priceOfSum_76 mX1_76 (zc_k255 zc_s255) (zc_pos zc_s255 rfl) (by decide) (Nat.le_of_ble_eq_true rfl) (Nat.le_refl _) (fun r76 hr76 pr76 => ?_)
            refine zr_iast (pc := 79) hV dX1_priceOfSum_79 (zc_k273 zc_s273) (zc_pos zc_s273 rfl) rfl (by omega) (fun σ79 eσ79 => ?_)
            have hσ79 : zc_T σ79 := zc_ua273 eσ79 hσ_11 zc_s273 (by omega)
            have hFσ79 := zc_Fa eσ79 zc_s273 rfl hFσ_11
            have Nσ79 : zc_N σ79 := zc_N_fr (zc_Fa eσ79 zc_s273 rfl (zc_Fr_rf [(273, -1)] _)) rfl hσ_11 Nσ_11
            refine zr_aload_n (pc := 80) hV dX1_priceOfSum_80 rfl rfl ?_
            refine zr_getR (pc := 81) hV 5 272 dX1_priceOfSum_81 fX1_21 rfl rfl (zc_k255 zc_s255) (zc_pos zc_s255 rfl) (zc_g255_5 hσ79 zc_s255) (by decide) ?_
            refine zr_iload_n (pc := 84) hV dX1_priceOfSum_84 rfl rfl ?_
            refine zr_aload_n (pc := 85) hV dX1_priceOfSum_85 rfl rfl ?_
            refine zr_aload_n (pc := 86) hV dX1_priceOfSum_86 rfl rfl ?_
            refine zr_getR (pc := 87) hV 6 273 dX1_priceOfSum_87 fX1_25 rfl rfl (zc_k255 zc_s255) (zc_pos zc_s255 rfl) (zc_g255_6 hσ79 zc_s255) (by decide) ?_
            refine zr_iload_n (pc := 90) hV dX1_priceOfSum_90 rfl rfl ?_
            refine zr_iald (pc := 91) hV dX1_priceOfSum_91 (zc_k273 zc_s273) (zc_pos zc_s273 rfl) rfl (by omega) ?_
            have t23 := zc_ga273 hσ79 zc_s273 x2_11
            have t24 : σ79 273 x2_11 = r76 := by rw [eσ79]; exact zq_up_same _ _ _ _
            refine zr_callVp (pc := 92) hV [ZI (σ79 273 x2_11)] (st := [ZI x2_11, ZR 272]) (c_X1_ticksOf (σ := σ79) hσ79 (σ79 273 x2_11) (by omega)) dX1_priceOfSum_92 mX1_59 (zc_k255 zc_s255) (zc_pos zc_s255 rfl) (by decide) (Nat.le_of_ble_eq_true rfl) (Nat.le_refl _) (fun r92 hr92 pr92 => ?_)
            refine zr_iast (pc := 95) hV dX1_priceOfSum_95 (zc_k272 zc_s272) (zc_pos zc_s272 rfl) rfl (by omega) (fun σ95 eσ95 => ?_)
            have hσ95 : zc_T σ95 := zc_ua272 eσ95 hσ79 zc_s272 (by omega)
            have hFσ95 := zc_Fa eσ95 zc_s272 rfl hFσ79
            have Nσ95 : zc_N σ95 := zc_N_fr (zc_Fa eσ95 zc_s272 rfl (zc_Fr_rf [(272, -1)] _)) rfl hσ79 Nσ79
            refine zr_goto (pc := 96) hV 105 dX1_priceOfSum_96 (by decide) ?_
            show V 105 [some (ZR 255), some (ZI r5), some (ZI x2_11)] [] 284 σ95
            refine zr_iinc (pc := 105) hV [some (ZR 255), some (ZI r5), some (ZI (x2_11 + 1))] (x2_11 + 1) dX1_priceOfSum_105 rfl rfl (by decide) rfl rfl ?_
            refine zr_goto (pc := 108) hV 11 dX1_priceOfSum_108 (by decide) ?_
            exact ih11 (x2_11 + 1) σ95 (by omega) hσ95 hFσ95 Nσ95 (by omega)
        · show V 33 [some (ZR 255), some (ZI r5), some (ZI x2_11)] [] 284 σ_11
          refine zr_aload_n (pc := 33) hV dX1_priceOfSum_33 rfl rfl ?_
          refine zr_getR (pc := 34) hV 5 272 dX1_priceOfSum_34 fX1_21 rfl rfl (zc_k255 zc_s255) (zc_pos zc_s255 rfl) (zc_g255_5 hσ_11 zc_s255) (by decide) ?_
          refine zr_iload_n (pc := 37) hV dX1_priceOfSum_37 rfl rfl ?_
          refine zr_iconst (pc := 38) hV 0 dX1_priceOfSum_38 rfl ?_
          refine zr_iast (pc := 39) hV dX1_priceOfSum_39 (zc_k272 zc_s272) (zc_pos zc_s272 rfl) rfl (by omega) (fun σ39 eσ39 => ?_)
          have hσ39 : zc_T σ39 := zc_ua272 eσ39 hσ_11 zc_s272 (by omega)
          have hFσ39 := zc_Fa eσ39 zc_s272 rfl hFσ_11
          have Nσ39 : zc_N σ39 := zc_N_fr (zc_Fa eσ39 zc_s272 rfl (zc_Fr_rf [(272, -1)] _)) rfl hσ_11 Nσ_11
          refine zr_aload_n (pc := 40) hV dX1_priceOfSum_40 rfl rfl ?_
          refine zr_getR (pc := 41) hV 6 273 dX1_priceOfSum_41 fX1_25 rfl rfl (zc_k255 zc_s255) (zc_pos zc_s255 rfl) (zc_g255_6 hσ39 zc_s255) (by decide) ?_
          refine zr_iload_n (pc := 44) hV dX1_priceOfSum_44 rfl rfl ?_
          refine zr_iconst (pc := 45) hV (-1) dX1_priceOfSum_45 rfl ?_
          refine zr_iast (pc := 46) hV dX1_priceOfSum_46 (zc_k273 zc_s273) (zc_pos zc_s273 rfl) rfl (by omega) (fun σ46 eσ46 => ?_)
          have hσ46 : zc_T σ46 := zc_ua273 eσ46 hσ39 zc_s273 (by omega)
          have hFσ46 := zc_Fa eσ46 zc_s273 rfl hFσ39
          have Nσ46 : zc_N σ46 := zc_N_fr (zc_Fa eσ46 zc_s273 rfl (zc_Fr_rf [(273, -1)] _)) rfl hσ39 Nσ39
          refine zr_goto (pc := 47) hV 105 dX1_priceOfSum_47 (by decide) ?_
          show V 105 [some (ZR 255), some (ZI r5), some (ZI x2_11)] [] 284 σ46
          refine zr_iinc (pc := 105) hV [some (ZR 255), some (ZI r5), some (ZI (x2_11 + 1))] (x2_11 + 1) dX1_priceOfSum_105 rfl rfl (by decide) rfl rfl ?_
          refine zr_goto (pc := 108) hV 11 dX1_priceOfSum_108 (by decide) ?_
          exact ih11 (x2_11 + 1) σ46 (by omega) hσ46 hFσ46 Nσ46 (by omega)
  exact L11 (39 - (0 : Int) + 1 : Int).toNat 0 σ (by omega) hσ hFσ Nσ (by omega)
set_option maxHeartbeats 800000 in
theorem c_X1_registerOf {σ : zq_S} (hσ : zc_T σ) (node : Int) (q0 : 0 ≤ node ∧ node ≤ 38) : zq_C zc_w yX1_registerOf cX1_registerOf 2 (some .int) 0 0 284 284 [ZR 255, ZI node] σ (zq_pp σ (fun r => True)) := by
  refine zq_C_of (by decide) (Nat.le_refl _) (Nat.le_of_ble_eq_true rfl) [some (ZR 255), some (ZI node)] rfl (fun V hV => ?_)
  show V 0 [some (ZR 255), some (ZI node)] [] 284 σ
  refine zr_aload_n (pc := 0) hV dX1_registerOf_0 rfl rfl ?_
  refine zr_getR (pc := 1) hV 7 274 dX1_registerOf_1 fX1_28 rfl rfl (zc_k255 zc_s255) (zc_pos zc_s255 rfl) (zc_g255_7 hσ zc_s255) (by decide) ?_
  refine zr_iload_n (pc := 4) hV dX1_registerOf_4 rfl rfl ?_
  refine zr_iald (pc := 5) hV dX1_registerOf_5 (zc_k274 zc_s274) (zc_pos zc_s274 rfl) rfl (by omega) ?_
  have t1 := zc_ga274 hσ zc_s274 node
  refine zr_iconst (pc := 6) hV (-1) dX1_registerOf_6 rfl ?_
  refine zr_icmp_ne (pc := 7) hV 22 dX1_registerOf_7 (by decide) (by omega) ⟨by decide, by decide⟩ (fun c2 => ?_) (fun c2 => ?_)
  · show V 22 [some (ZR 255), some (ZI node)] [] 284 σ
    refine zr_aload_n (pc := 22) hV dX1_registerOf_22 rfl rfl ?_
    refine zr_getR (pc := 23) hV 7 274 dX1_registerOf_23 fX1_28 rfl rfl (zc_k255 zc_s255) (zc_pos zc_s255 rfl) (zc_g255_7 hσ zc_s255) (by decide) ?_
    refine zr_iload_n (pc := 26) hV dX1_registerOf_26 rfl rfl ?_
    refine zr_iald (pc := 27) hV dX1_registerOf_27 (zc_k274 zc_s274) (zc_pos zc_s274 rfl) rfl (by omega) ?_
    have t3 := zc_ga274 hσ zc_s274 node
    show V 28 [some (ZR 255), some (ZI node)] [ZI (σ 274 node)] 284 σ
    exact zr_iret (pc := 28) hV dX1_registerOf_28 rfl rfl ⟨rfl, _, rfl, (by omega), trivial⟩
  · show V 10 [some (ZR 255), some (ZI node)] [] 284 σ
    refine zr_aload_n (pc := 10) hV dX1_registerOf_10 rfl rfl ?_
    obtain ⟨o11, eo11⟩ : ∃ o, σ 255 1 = o := ⟨_, rfl⟩
    have ko11 : zc_kd o11 = 256 := eo11 ▸ zc_g255_1 hσ zc_s255
    have po11 := zc_pos ko11 rfl
    refine zr_getR (pc := 11) hV 1 o11 dX1_registerOf_11 fX1_12 rfl rfl (zc_k255 zc_s255) (zc_pos zc_s255 rfl) (by omega) (zc_pos ko11 rfl).1 ?_
    refine zr_getR (pc := 14) hV 1 (o11 + 2) dX1_registerOf_14 fX1_73 rfl rfl (zc_k256 ko11) (zc_pos ko11 rfl) (zc_g256_1 hσ ko11) (zc_pos (zc_p256_2 ko11) rfl).1 ?_
    refine zr_iload_n (pc := 17) hV dX1_registerOf_17 rfl rfl ?_
    refine zr_iald (pc := 18) hV dX1_registerOf_18 (zc_k258 (zc_p256_2 ko11)) (zc_pos (zc_p256_2 ko11) rfl) rfl (by omega) ?_
    have t4 := zc_ga258 hσ (zc_p256_2 ko11) node
    refine zr_goto (pc := 19) hV 28 dX1_registerOf_19 (by decide) ?_
    show V 28 [some (ZR 255), some (ZI node)] [ZI (σ (o11 + 2) node)] 284 σ
    exact zr_iret (pc := 28) hV dX1_registerOf_28 rfl rfl ⟨rfl, _, rfl, (by omega), trivial⟩
set_option maxHeartbeats 800000 in
theorem c_X1_chooseSides {σ : zq_S} (hσ : zc_T σ) (node : Int) (form : Int) (q0 : 0 ≤ node ∧ node ≤ 38) (q1 : zq_in form) : zq_C zc_w yX1_chooseSides cX1_chooseSides 6 (none) 1 21 284 284 [ZR 255, ZI node, ZI form] σ (zq_pv (fun τ => zc_T τ ∧ zc_Fr [(274, -1)] σ τ ∧ (True))) := by
  refine zq_C_of (by decide) (Nat.le_refl _) (Nat.le_of_ble_eq_true rfl) [some (ZR 255), some (ZI node), some (ZI form), none, none, none] rfl (fun V hV => ?_)
  have hFσ := zc_Fr_rf [(274, -1)] σ
  show V 0 [some (ZR 255), some (ZI node), some (ZI form), none, none, none] [] 284 σ
  refine zr_aload_n (pc := 0) hV dX1_chooseSides_0 rfl rfl ?_
  obtain ⟨o1, eo1⟩ : ∃ o, σ 255 1 = o := ⟨_, rfl⟩
  have ko1 : zc_kd o1 = 256 := eo1 ▸ zc_g255_1 hσ zc_s255
  have po1 := zc_pos ko1 rfl
  refine zr_getR (pc := 1) hV 1 o1 dX1_chooseSides_1 fX1_12 rfl rfl (zc_k255 zc_s255) (zc_pos zc_s255 rfl) (by omega) (zc_pos ko1 rfl).1 ?_
  refine zr_getR (pc := 4) hV 2 (o1 + 3) dX1_chooseSides_4 fX1_122 rfl rfl (zc_k256 ko1) (zc_pos ko1 rfl) (zc_g256_2 hσ ko1) (zc_pos (zc_p256_3 ko1) rfl).1 ?_
  refine zr_iload_n (pc := 7) hV dX1_chooseSides_7 rfl rfl ?_
  refine zr_iald (pc := 8) hV dX1_chooseSides_8 (zc_k259 (zc_p256_3 ko1)) (zc_pos (zc_p256_3 ko1) rfl) rfl (by omega) ?_
  have t1 := zc_ga259 hσ (zc_p256_3 ko1) node
  refine zr_istore_n (pc := 9) hV [some (ZR 255), some (ZI node), some (ZI form), some (ZI (σ (o1 + 3) node)), none, none] dX1_chooseSides_9 rfl (by decide) rfl rfl ?_
  refine zr_aload_n (pc := 10) hV dX1_chooseSides_10 rfl rfl ?_
  refine zr_getR (pc := 11) hV 1 o1 dX1_chooseSides_11 fX1_12 rfl rfl (zc_k255 zc_s255) (zc_pos zc_s255 rfl) (by omega) (zc_pos ko1 rfl).1 ?_
  refine zr_getR (pc := 14) hV 3 (o1 + 4) dX1_chooseSides_14 fX1_125 rfl rfl (zc_k256 ko1) (zc_pos ko1 rfl) (zc_g256_3 hσ ko1) (zc_pos (zc_p256_4 ko1) rfl).1 ?_
  refine zr_iload_n (pc := 17) hV dX1_chooseSides_17 rfl rfl ?_
  refine zr_iald (pc := 18) hV dX1_chooseSides_18 (zc_k260 (zc_p256_4 ko1)) (zc_pos (zc_p256_4 ko1) rfl) rfl (by omega) ?_
  have t2 := zc_ga260 hσ (zc_p256_4 ko1) node
  refine zr_istore (pc := 19) hV [some (ZR 255), some (ZI node), some (ZI form), some (ZI (σ (o1 + 3) node)), some (ZI (σ (o1 + 4) node)), none] dX1_chooseSides_19 (by decide) rfl rfl ?_
  refine zr_aload_n (pc := 21) hV dX1_chooseSides_21 rfl rfl ?_
  refine zr_getR (pc := 22) hV 1 o1 dX1_chooseSides_22 fX1_12 rfl rfl (zc_k255 zc_s255) (zc_pos zc_s255 rfl) (by omega) (zc_pos ko1 rfl).1 ?_
  refine zr_iload_n (pc := 25) hV dX1_chooseSides_25 rfl rfl ?_
  refine zr_callVp (pc := 26) hV [ZI (σ (o1 + 3) node)] (st := []) (c_X7_isVariable (σ := σ) hσ o1 ko1 (σ (o1 + 3) node) (by omega)) dX1_chooseSides_26 mX1_66 (zc_k256 ko1) (zc_pos ko1 rfl) (by decide) (Nat.le_of_ble_eq_true rfl) (Nat.le_refl _) (fun r26 hr26 pr26 => ?_)
  have J44 : ∀ (v0_44 : Int), (0 ≤ v0_44 ∧ v0_44 ≤ 1) → V 44 [some (ZR 255), some (ZI node), some (ZI form), some (ZI (σ (o1 + 3) node)), some (ZI (σ (o1 + 4) node)), none] [ZI v0_44] 284 σ := by
    intro v0_44 hv0_44
    show V 44 [some (ZR 255), some (ZI node), some (ZI form), some (ZI (σ (o1 + 3) node)), some (ZI (σ (o1 + 4) node)), none] [ZI v0_44] 284 σ
    refine zr_istore (pc := 44) hV [some (ZR 255), some (ZI node), some (ZI form), some (ZI (σ (o1 + 3) node)), some (ZI (σ (o1 + 4) node)), some (ZI v0_44)] dX1_chooseSides_44 (by decide) rfl rfl ?_
    refine zr_iload (pc := 46) hV dX1_chooseSides_46 rfl ?_
    have J63 : ∀ (σ_63 : zq_S), (zc_T σ_63) → (zc_Fr [(274, -1)] σ σ_63) → V 63 [some (ZR 255), some (ZI node), some (ZI form), none, some (ZI (σ (o1 + 4) node)), some (ZI v0_44)] [] 284 σ_63 := by
      intro σ_63 hσ_63 hFσ_63
      show V 63 [some (ZR 255), some (ZI node), some (ZI form), none, some (ZI (σ (o1 + 4) node)), some (ZI v0_44)] [] 284 σ_63
      refine zr_iload_n (pc := 63) hV dX1_chooseSides_63 rfl rfl ?_
      refine zr_callSp (pc := 64) hV [ZI form] (st := []) (c_X1_takesRegister (σ := σ_63) form (by omega)) dX1_chooseSides_64 mX1_128 (by decide) (Nat.le_of_ble_eq_true rfl) (Nat.le_refl _) (fun r64 hr64 pr64 => ?_)
      refine zr_if_eq (pc := 67) hV 111 dX1_chooseSides_67 (by decide) (by omega) (fun c3 => ?_) (fun c3 => ?_)
      · show V 111 [some (ZR 255), some (ZI node), some (ZI form), none, some (ZI (σ (o1 + 4) node)), some (ZI v0_44)] [] 284 σ_63
        exact zr_vret (pc := 111) hV dX1_chooseSides_111 rfl rfl ⟨rfl, hσ_63, hFσ_63, trivial⟩
      · show V 70 [some (ZR 255), some (ZI node), some (ZI form), none, some (ZI (σ (o1 + 4) node)), some (ZI v0_44)] [] 284 σ_63
        refine zr_aload_n (pc := 70) hV dX1_chooseSides_70 rfl rfl ?_
        have t4 : σ_63 255 1 = σ 255 1 := hFσ_63 _ _ (zc_out_at zc_s255 rfl)
        refine zr_getR (pc := 71) hV 1 o1 dX1_chooseSides_71 fX1_12 rfl rfl (zc_k255 zc_s255) (zc_pos zc_s255 rfl) (by omega) (zc_pos ko1 rfl).1 ?_
        refine zr_iload (pc := 74) hV dX1_chooseSides_74 rfl ?_
        refine zr_callVp (pc := 76) hV [ZI (σ (o1 + 4) node)] (st := []) (c_X7_isVariable (σ := σ_63) hσ_63 o1 ko1 (σ (o1 + 4) node) (by omega)) dX1_chooseSides_76 mX1_66 (zc_k256 ko1) (zc_pos ko1 rfl) (by decide) (Nat.le_of_ble_eq_true rfl) (Nat.le_refl _) (fun r76 hr76 pr76 => ?_)
        refine zr_if_ne (pc := 79) hV 111 dX1_chooseSides_79 (by decide) (by omega) (fun c5 => ?_) (fun c5 => ?_)
        · show V 111 [some (ZR 255), some (ZI node), some (ZI form), none, some (ZI (σ (o1 + 4) node)), some (ZI v0_44)] [] 284 σ_63
          exact zr_vret (pc := 111) hV dX1_chooseSides_111 rfl rfl ⟨rfl, hσ_63, hFσ_63, trivial⟩
        · show V 82 [some (ZR 255), some (ZI node), some (ZI form), none, some (ZI (σ (o1 + 4) node)), some (ZI v0_44)] [] 284 σ_63
          refine zr_aload_n (pc := 82) hV dX1_chooseSides_82 rfl rfl ?_
          refine zr_getR (pc := 83) hV 7 274 dX1_chooseSides_83 fX1_28 rfl rfl (zc_k255 zc_s255) (zc_pos zc_s255 rfl) (zc_g255_7 hσ_63 zc_s255) (by decide) ?_
          refine zr_iload (pc := 86) hV dX1_chooseSides_86 rfl ?_
          refine zr_iload (pc := 88) hV dX1_chooseSides_88 rfl ?_
          refine zr_if_eq (pc := 90) hV 102 dX1_chooseSides_90 (by decide) (by omega) (fun c6 => ?_) (fun c6 => ?_)
          · show V 102 [some (ZR 255), some (ZI node), some (ZI form), none, some (ZI (σ (o1 + 4) node)), some (ZI v0_44)] [ZI (σ (o1 + 4) node), ZR 274] 284 σ_63
            refine zr_aload_n (pc := 102) hV dX1_chooseSides_102 rfl rfl ?_
            refine zr_getR (pc := 103) hV 7 274 dX1_chooseSides_103 fX1_28 rfl rfl (zc_k255 zc_s255) (zc_pos zc_s255 rfl) (zc_g255_7 hσ_63 zc_s255) (by decide) ?_
            refine zr_iload_n (pc := 106) hV dX1_chooseSides_106 rfl rfl ?_
            refine zr_iald (pc := 107) hV dX1_chooseSides_107 (zc_k274 zc_s274) (zc_pos zc_s274 rfl) rfl (by omega) ?_
            have t7 := zc_ga274 hσ_63 zc_s274 node
            refine zr_iconst (pc := 108) hV 1 dX1_chooseSides_108 rfl ?_
            refine zr_iadd (pc := 109) hV dX1_chooseSides_109 ?_
            refine zr_any (pc := 110) hV (fun y110 hy110 _ => ?_)
            show V 110 [some (ZR 255), some (ZI node), some (ZI form), none, some (ZI (σ (o1 + 4) node)), some (ZI v0_44)] [ZI y110, ZI (σ (o1 + 4) node), ZR 274] 284 σ_63
            refine zr_iast (pc := 110) hV dX1_chooseSides_110 (zc_k274 zc_s274) (zc_pos zc_s274 rfl) rfl (by omega) (fun σ110 eσ110 => ?_)
            have hσ110 : zc_T σ110 := zc_ua274 eσ110 hσ_63 zc_s274 (by omega)
            have hFσ110 := zc_Fa eσ110 zc_s274 rfl hFσ_63
            show V 111 [some (ZR 255), some (ZI node), some (ZI form), none, some (ZI (σ (o1 + 4) node)), some (ZI v0_44)] [] 284 σ110
            exact zr_vret (pc := 111) hV dX1_chooseSides_111 rfl rfl ⟨rfl, hσ110, hFσ110, trivial⟩
          · show V 93 [some (ZR 255), some (ZI node), some (ZI form), none, some (ZI (σ (o1 + 4) node)), some (ZI v0_44)] [ZI (σ (o1 + 4) node), ZR 274] 284 σ_63
            refine zr_aload_n (pc := 93) hV dX1_chooseSides_93 rfl rfl ?_
            refine zr_getR (pc := 94) hV 7 274 dX1_chooseSides_94 fX1_28 rfl rfl (zc_k255 zc_s255) (zc_pos zc_s255 rfl) (zc_g255_7 hσ_63 zc_s255) (by decide) ?_
            refine zr_iload_n (pc := 97) hV dX1_chooseSides_97 rfl rfl ?_
            refine zr_iald (pc := 98) hV dX1_chooseSides_98 (zc_k274 zc_s274) (zc_pos zc_s274 rfl) rfl (by omega) ?_
            have t8 := zc_ga274 hσ_63 zc_s274 node
            refine zr_goto (pc := 99) hV 110 dX1_chooseSides_99 (by decide) ?_
            show V 110 [some (ZR 255), some (ZI node), some (ZI form), none, some (ZI (σ (o1 + 4) node)), some (ZI v0_44)] [ZI (σ_63 274 node), ZI (σ (o1 + 4) node), ZR 274] 284 σ_63
            refine zr_iast (pc := 110) hV dX1_chooseSides_110 (zc_k274 zc_s274) (zc_pos zc_s274 rfl) rfl (by omega) (fun σ110 eσ110 => ?_)
            have hσ110 : zc_T σ110 := zc_ua274 eσ110 hσ_63 zc_s274 (by omega)
            have hFσ110 := zc_Fa eσ110 zc_s274 rfl hFσ_63
            show V 111 [some (ZR 255), some (ZI node), some (ZI form), none, some (ZI (σ (o1 + 4) node)), some (ZI v0_44)] [] 284 σ110
            exact zr_vret (pc := 111) hV dX1_chooseSides_111 rfl rfl ⟨rfl, hσ110, hFσ110, trivial⟩
    refine zr_if_ne (pc := 48) hV 63 dX1_chooseSides_48 (by decide) (by omega) (fun c9 => ?_) (fun c9 => ?_)
    · refine zr_sub (pc := 63) hV [some (ZR 255), some (ZI node), some (ZI form), none, some (ZI (σ (o1 + 4) node)), some (ZI v0_44)] (⟨rfl, rfl, rfl, rfl, rfl, trivial⟩) ?_
      exact J63 σ hσ hFσ
    · show V 51 [some (ZR 255), some (ZI node), some (ZI form), some (ZI (σ (o1 + 3) node)), some (ZI (σ (o1 + 4) node)), some (ZI v0_44)] [] 284 σ
      refine zr_aload_n (pc := 51) hV dX1_chooseSides_51 rfl rfl ?_
      refine zr_getR (pc := 52) hV 7 274 dX1_chooseSides_52 fX1_28 rfl rfl (zc_k255 zc_s255) (zc_pos zc_s255 rfl) (zc_g255_7 hσ zc_s255) (by decide) ?_
      refine zr_iload_n (pc := 55) hV dX1_chooseSides_55 rfl rfl ?_
      refine zr_aload_n (pc := 56) hV dX1_chooseSides_56 rfl rfl ?_
      refine zr_getR (pc := 57) hV 7 274 dX1_chooseSides_57 fX1_28 rfl rfl (zc_k255 zc_s255) (zc_pos zc_s255 rfl) (zc_g255_7 hσ zc_s255) (by decide) ?_
      refine zr_iload_n (pc := 60) hV dX1_chooseSides_60 rfl rfl ?_
      refine zr_iald (pc := 61) hV dX1_chooseSides_61 (zc_k274 zc_s274) (zc_pos zc_s274 rfl) rfl (by omega) ?_
      have t10 := zc_ga274 hσ zc_s274 node
      refine zr_iast (pc := 62) hV dX1_chooseSides_62 (zc_k274 zc_s274) (zc_pos zc_s274 rfl) rfl (by omega) (fun σ62 eσ62 => ?_)
      have hσ62 : zc_T σ62 := zc_ua274 eσ62 hσ zc_s274 (by omega)
      have hFσ62 := zc_Fa eσ62 zc_s274 rfl hFσ
      refine zr_sub (pc := 63) hV [some (ZR 255), some (ZI node), some (ZI form), none, some (ZI (σ (o1 + 4) node)), some (ZI v0_44)] (⟨rfl, rfl, rfl, rfl, rfl, trivial⟩) ?_
      exact J63 σ62 hσ62 hFσ62
  have J43 : V 43 [some (ZR 255), some (ZI node), some (ZI form), some (ZI (σ (o1 + 3) node)), some (ZI (σ (o1 + 4) node)), none] [] 284 σ := by
    show V 43 [some (ZR 255), some (ZI node), some (ZI form), some (ZI (σ (o1 + 3) node)), some (ZI (σ (o1 + 4) node)), none] [] 284 σ
    refine zr_iconst (pc := 43) hV 0 dX1_chooseSides_43 rfl ?_
    exact J44 0 (by omega)
  refine zr_if_eq (pc := 29) hV 43 dX1_chooseSides_29 (by decide) (by omega) (fun c11 => ?_) (fun c11 => ?_)
  · exact J43
  · show V 32 [some (ZR 255), some (ZI node), some (ZI form), some (ZI (σ (o1 + 3) node)), some (ZI (σ (o1 + 4) node)), none] [] 284 σ
    refine zr_iload_n (pc := 32) hV dX1_chooseSides_32 rfl rfl ?_
    refine zr_callSp (pc := 33) hV [ZI form] (st := []) (c_X1_worksInPlace (σ := σ) form (by omega)) dX1_chooseSides_33 mX1_131 (by decide) (Nat.le_of_ble_eq_true rfl) (Nat.le_refl _) (fun r33 hr33 pr33 => ?_)
    refine zr_if_ne (pc := 36) hV 43 dX1_chooseSides_36 (by decide) (by omega) (fun c12 => ?_) (fun c12 => ?_)
    · exact J43
    · show V 39 [some (ZR 255), some (ZI node), some (ZI form), some (ZI (σ (o1 + 3) node)), some (ZI (σ (o1 + 4) node)), none] [] 284 σ
      refine zr_iconst (pc := 39) hV 1 dX1_chooseSides_39 rfl ?_
      refine zr_goto (pc := 40) hV 44 dX1_chooseSides_40 (by decide) ?_
      exact J44 1 (by omega)
set_option maxHeartbeats 800000 in
theorem c_X1_chooseRegisters {σ : zq_S} (hσ : zc_T σ)   (Nσ : zc_N σ) : zq_C zc_w yX1_chooseRegisters cX1_chooseRegisters 3 (none) 2 46 284 284 [ZR 255] σ (zq_pv (fun τ => zc_T τ ∧ zc_Fr [(274, -1)] σ τ ∧ (True) ∧ zc_N τ)) := by
  refine zq_C_of (by decide) (Nat.le_refl _) (Nat.le_of_ble_eq_true rfl) [some (ZR 255), none, none] rfl (fun V hV => ?_)
  have hFσ := zc_Fr_rf [(274, -1)] σ
  obtain ⟨told, etold⟩ : ∃ o, σ 255 1 = o := ⟨_, rfl⟩
  have ktold : zc_kd told = 256 := etold ▸ zc_g255_1 hσ zc_s255
  have potold := zc_pos ktold rfl
  have hN := Nσ
  unfold zc_N at hN
  rw [etold] at hN
  show V 0 [some (ZR 255), none, none] [] 284 σ
  refine zr_aload_n (pc := 0) hV dX1_chooseRegisters_0 rfl rfl ?_
  refine zr_getR (pc := 1) hV 7 274 dX1_chooseRegisters_1 fX1_28 rfl rfl (zc_k255 zc_s255) (zc_pos zc_s255 rfl) (zc_g255_7 hσ zc_s255) (by decide) ?_
  refine zr_iconst (pc := 4) hV (-1) dX1_chooseRegisters_4 rfl ?_
  refine zr_callSv (pc := 5) hV [ZR 274, ZI (-1)] (st := []) (c_fill (σ := σ) hσ 274 (-1) zc_s274 rfl rfl ⟨by decide, by decide⟩ (fun _ => ⟨by omega, by omega⟩)) dX1_chooseRegisters_5 mX1_158 (by decide) (Nat.le_of_ble_eq_true rfl) (Nat.le_refl _) (fun σ5 pσ5 => ?_)
  obtain ⟨hσ5, hfσ5, pσ5⟩ := pσ5
  have hFσ5 := zc_Fc hfσ5 rfl hFσ
  have Nσ5 : zc_N σ5 := zc_N_fr hfσ5 rfl hσ Nσ
  refine zr_aload_n (pc := 8) hV dX1_chooseRegisters_8 rfl rfl ?_
  refine zr_getR (pc := 9) hV 7 274 dX1_chooseRegisters_9 fX1_28 rfl rfl (zc_k255 zc_s255) (zc_pos zc_s255 rfl) (zc_g255_7 hσ5 zc_s255) (by decide) ?_
  refine zr_aload_n (pc := 12) hV dX1_chooseRegisters_12 rfl rfl ?_
  have t1 : σ5 255 1 = σ 255 1 := hfσ5 _ _ (zc_out_at zc_s255 rfl)
  refine zr_getR (pc := 13) hV 1 told dX1_chooseRegisters_13 fX1_12 rfl rfl (zc_k255 zc_s255) (zc_pos zc_s255 rfl) (by omega) (zc_pos ktold rfl).1 ?_
  refine zr_callVp (pc := 16) hV [] (st := [ZR 274]) (c_X7_root (σ := σ5) hσ5 told ktold) dX1_chooseRegisters_16 mX1_83 (zc_k256 ktold) (zc_pos ktold rfl) (by decide) (Nat.le_of_ble_eq_true rfl) (Nat.le_refl _) (fun r16 hr16 pr16 => ?_)
  have t2 := zc_g256_5 hσ5 ktold
  have t3 : σ5 told 5 = σ told 5 := hfσ5 _ _ (zc_out_at ktold rfl)
  refine zr_aload_n (pc := 19) hV dX1_chooseRegisters_19 rfl rfl ?_
  refine zr_getI (pc := 20) hV 4 dX1_chooseRegisters_20 fX1_38 rfl rfl (zc_k255 zc_s255) (zc_pos zc_s255 rfl) ?_
  have t4 := zc_g255_4 hσ5 zc_s255
  have t5 : σ5 255 4 = σ 255 4 := hfσ5 _ _ (zc_out_at zc_s255 rfl)
  refine zr_iast (pc := 23) hV dX1_chooseRegisters_23 (zc_k274 zc_s274) (zc_pos zc_s274 rfl) rfl (by omega) (fun σ23 eσ23 => ?_)
  have hσ23 : zc_T σ23 := zc_ua274 eσ23 hσ5 zc_s274 (by omega)
  have hFσ23 := zc_Fa eσ23 zc_s274 rfl hFσ5
  have Nσ23 : zc_N σ23 := zc_N_fr (zc_Fa eσ23 zc_s274 rfl (zc_Fr_rf [(274, -1)] _)) rfl hσ5 Nσ5
  refine zr_aload_n (pc := 24) hV dX1_chooseRegisters_24 rfl rfl ?_
  have t6 : σ23 255 1 = σ5 255 1 := by rw [eσ23]; exact zq_up_ne (zc_dk zc_s255 zc_s274 rfl)
  have t7 : σ5 255 1 = σ 255 1 := hfσ5 _ _ (zc_out_at zc_s255 rfl)
  refine zr_getR (pc := 25) hV 1 told dX1_chooseRegisters_25 fX1_12 rfl rfl (zc_k255 zc_s255) (zc_pos zc_s255 rfl) (by omega) (zc_pos ktold rfl).1 ?_
  refine zr_callVp (pc := 28) hV [] (st := []) (c_X7_root (σ := σ23) hσ23 told ktold) dX1_chooseRegisters_28 mX1_83 (zc_k256 ktold) (zc_pos ktold rfl) (by decide) (Nat.le_of_ble_eq_true rfl) (Nat.le_refl _) (fun r28 hr28 pr28 => ?_)
  have t8 := zc_g256_5 hσ23 ktold
  have t9 : σ23 told 5 = σ5 told 5 := by rw [eσ23]; exact zq_up_ne (zc_dk ktold zc_s274 rfl)
  have t10 : σ5 told 5 = σ told 5 := hfσ5 _ _ (zc_out_at ktold rfl)
  refine zr_istore_n (pc := 31) hV [some (ZR 255), some (ZI r28), none] dX1_chooseRegisters_31 rfl (by decide) rfl rfl ?_
  have L32 : ∀ (fuel : Nat) (x1_32 : Int) (σ_32 : zq_S), ((-1) ≤ x1_32 ∧ x1_32 ≤ 38) → (zc_T σ_32) → (zc_Fr [(274, -1)] σ σ_32) → (zc_N σ_32) → x1_32 - (-1) < (fuel : Int) → V 32 [some (ZR 255), some (ZI x1_32), none] [] 284 σ_32 := by
    intro fuel
    induction fuel with
    | zero =>
      intro x1_32 σ_32 hx1_32 hσ_32 hFσ_32 Nσ_32 hm32
      exfalso; omega
    | succ fuel ih =>
      intro x1_32 σ_32 hx1_32 hσ_32 hFσ_32 Nσ_32 hm32
      have ih32 := ih
      show V 32 [some (ZR 255), some (ZI x1_32), none] [] 284 σ_32
      refine zr_iload_n (pc := 32) hV dX1_chooseRegisters_32 rfl rfl ?_
      refine zr_if_lt (pc := 33) hV 87 dX1_chooseRegisters_33 (by decide) (by omega) (fun c11 => ?_) (fun c11 => ?_)
      · show V 87 [some (ZR 255), some (ZI x1_32), none] [] 284 σ_32
        exact zr_vret (pc := 87) hV dX1_chooseRegisters_87 rfl rfl ⟨rfl, hσ_32, hFσ_32, trivial, Nσ_32⟩
      · show V 36 [some (ZR 255), some (ZI x1_32), none] [] 284 σ_32
        refine zr_aload_n (pc := 36) hV dX1_chooseRegisters_36 rfl rfl ?_
        refine zr_getR (pc := 37) hV 0 3 dX1_chooseRegisters_37 fX1_34 rfl rfl (zc_k255 zc_s255) (zc_pos zc_s255 rfl) (zc_g255_0 hσ_32 zc_s255) (by decide) ?_
        refine zr_aload_n (pc := 40) hV dX1_chooseRegisters_40 rfl rfl ?_
        refine zr_getR (pc := 41) hV 6 273 dX1_chooseRegisters_41 fX1_25 rfl rfl (zc_k255 zc_s255) (zc_pos zc_s255 rfl) (zc_g255_6 hσ_32 zc_s255) (by decide) ?_
        refine zr_iload_n (pc := 44) hV dX1_chooseRegisters_44 rfl rfl ?_
        refine zr_iald (pc := 45) hV dX1_chooseRegisters_45 (zc_k273 zc_s273) (zc_pos zc_s273 rfl) rfl (by omega) ?_
        have t12 := zc_ga273 hσ_32 zc_s273 x1_32
        have t13 : σ_32 273 x1_32 = σ 273 x1_32 := hFσ_32 _ _ (zc_out_ar zc_s273 rfl)
        refine zr_callVr (pc := 46) hV [ZI (σ_32 273 x1_32)] (st := []) (c_X9_numbered (σ := σ_32) hσ_32 (σ_32 273 x1_32) (by omega)) dX1_chooseRegisters_46 mX1_87 (zc_k3 zc_s3) (zc_pos zc_s3 rfl) (by decide) (Nat.le_of_ble_eq_true rfl) (Nat.le_refl _) (fun r46 pr46 => ?_)
        refine zr_astore_nQ (pc := 49) hV [some (ZR 255), some (ZI x1_32), some (zq_nr r46)] dX1_chooseRegisters_49 rfl (by decide) rfl rfl ?_
        refine zr_aload_n (pc := 50) hV dX1_chooseRegisters_50 rfl rfl ?_
        refine zr_getR (pc := 51) hV 7 274 dX1_chooseRegisters_51 fX1_28 rfl rfl (zc_k255 zc_s255) (zc_pos zc_s255 rfl) (zc_g255_7 hσ_32 zc_s255) (by decide) ?_
        refine zr_iload_n (pc := 54) hV dX1_chooseRegisters_54 rfl rfl ?_
        refine zr_iald (pc := 55) hV dX1_chooseRegisters_55 (zc_k274 zc_s274) (zc_pos zc_s274 rfl) rfl (by omega) ?_
        have t14 := zc_ga274 hσ_32 zc_s274 x1_32
        refine zr_iconst (pc := 56) hV (-1) dX1_chooseRegisters_56 rfl ?_
        refine zr_icmp_eq (pc := 57) hV 81 dX1_chooseRegisters_57 (by decide) (by omega) ⟨by decide, by decide⟩ (fun c15 => ?_) (fun c15 => ?_)
        · show V 81 [some (ZR 255), some (ZI x1_32), some (zq_nr r46)] [] 284 σ_32
          refine zr_iinc (pc := 81) hV [some (ZR 255), some (ZI (x1_32 + (-1))), some (zq_nr r46)] (x1_32 + (-1)) dX1_chooseRegisters_81 rfl rfl (by decide) rfl rfl ?_
          refine zr_goto (pc := 84) hV 32 dX1_chooseRegisters_84 (by decide) ?_
          refine zr_sub (pc := 32) hV [some (ZR 255), some (ZI (x1_32 + (-1))), none] (⟨rfl, rfl, trivial⟩) ?_
          exact ih32 (x1_32 + (-1)) σ_32 (by omega) hσ_32 hFσ_32 Nσ_32 (by omega)
        · show V 60 [some (ZR 255), some (ZI x1_32), some (zq_nr r46)] [] 284 σ_32
          refine zr_aload_nQ (pc := 60) hV dX1_chooseRegisters_60 rfl rfl ?_
          by_cases c16 : r46 < 0
          · rw [zq_nr_n c16]
            refine zr_ifnullN (pc := 61) hV 81 dX1_chooseRegisters_61 (by decide) ?_
            show V 81 [some (ZR 255), some (ZI x1_32), some (ZN)] [] 284 σ_32
            refine zr_iinc (pc := 81) hV [some (ZR 255), some (ZI (x1_32 + (-1))), some (ZN)] (x1_32 + (-1)) dX1_chooseRegisters_81 rfl rfl (by decide) rfl rfl ?_
            refine zr_goto (pc := 84) hV 32 dX1_chooseRegisters_84 (by decide) ?_
            refine zr_sub (pc := 32) hV [some (ZR 255), some (ZI (x1_32 + (-1))), none] (⟨rfl, rfl, trivial⟩) ?_
            exact ih32 (x1_32 + (-1)) σ_32 (by omega) hσ_32 hFσ_32 Nσ_32 (by omega)
          · rw [zq_nr_p c16]
            have kr46 : zc_kd r46 = 4 := pr46.1 (by omega)
            have por46 := zc_pos kr46 rfl
            refine zr_ifnull (pc := 61) hV dX1_chooseRegisters_61 ?_
            show V 64 [some (ZR 255), some (ZI x1_32), some (ZR r46)] [] 284 σ_32
            refine zr_aload_n (pc := 64) hV dX1_chooseRegisters_64 rfl rfl ?_
            refine zr_getI (pc := 65) hV 14 dX1_chooseRegisters_65 fX1_105 rfl rfl (zc_k4 kr46) (zc_pos kr46 rfl) ?_
            have t17 := zc_g4_14 hσ_32 kr46
            have t18 : σ_32 r46 14 = σ r46 14 := hFσ_32 _ _ (zc_out_at kr46 rfl)
            refine zr_iconst (pc := 68) hV 3 dX1_chooseRegisters_68 rfl ?_
            refine zr_icmp_lt (pc := 69) hV 81 dX1_chooseRegisters_69 (by decide) (by omega) ⟨by decide, by decide⟩ (fun c19 => ?_) (fun c19 => ?_)
            · show V 81 [some (ZR 255), some (ZI x1_32), some (ZR r46)] [] 284 σ_32
              refine zr_iinc (pc := 81) hV [some (ZR 255), some (ZI (x1_32 + (-1))), some (ZR r46)] (x1_32 + (-1)) dX1_chooseRegisters_81 rfl rfl (by decide) rfl rfl ?_
              refine zr_goto (pc := 84) hV 32 dX1_chooseRegisters_84 (by decide) ?_
              refine zr_sub (pc := 32) hV [some (ZR 255), some (ZI (x1_32 + (-1))), none] (⟨rfl, rfl, trivial⟩) ?_
              exact ih32 (x1_32 + (-1)) σ_32 (by omega) hσ_32 hFσ_32 Nσ_32 (by omega)
            · show V 72 [some (ZR 255), some (ZI x1_32), some (ZR r46)] [] 284 σ_32
              refine zr_aload_n (pc := 72) hV dX1_chooseRegisters_72 rfl rfl ?_
              refine zr_iload_n (pc := 73) hV dX1_chooseRegisters_73 rfl rfl ?_
              refine zr_aload_n (pc := 74) hV dX1_chooseRegisters_74 rfl rfl ?_
              refine zr_getI (pc := 75) hV 14 dX1_chooseRegisters_75 fX1_105 rfl rfl (zc_k4 kr46) (zc_pos kr46 rfl) ?_
              have t20 := zc_g4_14 hσ_32 kr46
              have t21 : σ_32 r46 14 = σ r46 14 := hFσ_32 _ _ (zc_out_at kr46 rfl)
              have t22 := zc_g4_14 hσ_32 kr46
              have t23 : σ_32 r46 14 = σ r46 14 := hFσ_32 _ _ (zc_out_at kr46 rfl)
              refine zr_callVv (pc := 78) hV [ZI x1_32, ZI (σ_32 r46 14)] (st := []) (c_X1_chooseSides (σ := σ_32) hσ_32 x1_32 (σ_32 r46 14) (by omega) (by omega)) dX1_chooseRegisters_78 mX1_164 (zc_k255 zc_s255) (zc_pos zc_s255 rfl) (by decide) (Nat.le_of_ble_eq_true rfl) (Nat.le_refl _) (fun σ78 pσ78 => ?_)
              obtain ⟨hσ78, hfσ78, pσ78⟩ := pσ78
              have hFσ78 := zc_Fc hfσ78 rfl hFσ_32
              have Nσ78 : zc_N σ78 := zc_N_fr hfσ78 rfl hσ_32 Nσ_32
              show V 81 [some (ZR 255), some (ZI x1_32), some (ZR r46)] [] 284 σ78
              refine zr_iinc (pc := 81) hV [some (ZR 255), some (ZI (x1_32 + (-1))), some (ZR r46)] (x1_32 + (-1)) dX1_chooseRegisters_81 rfl rfl (by decide) rfl rfl ?_
              refine zr_goto (pc := 84) hV 32 dX1_chooseRegisters_84 (by decide) ?_
              refine zr_sub (pc := 32) hV [some (ZR 255), some (ZI (x1_32 + (-1))), none] (⟨rfl, rfl, trivial⟩) ?_
              exact ih32 (x1_32 + (-1)) σ78 (by omega) hσ78 hFσ78 Nσ78 (by omega)
  exact L32 (r28 - (-1) + 1 : Int).toNat r28 σ23 (by omega) hσ23 hFσ23 Nσ23 (by omega)
set_option maxHeartbeats 800000 in
theorem c_X1_emit {σ : zq_S} (hσ : zc_T σ) (node : Int) (q0 : 0 ≤ node ∧ node ≤ 38) : zq_C zc_w yX1_emit cX1_emit 7 (some .boolean) 3 65 284 284 [ZR 255, ZI node] σ (zq_pi (fun r τ => zc_T τ ∧ zc_Fr [(255, 9), (275, -1)] σ τ ∧ ((0 ≤ r ∧ r ≤ 1)))) := by
  refine zq_C_of (by decide) (Nat.le_refl _) (Nat.le_of_ble_eq_true rfl) [some (ZR 255), some (ZI node), none, none, none, none, none] rfl (fun V hV => ?_)
  have hFσ := zc_Fr_rf [(255, 9), (275, -1)] σ
  show V 0 [some (ZR 255), some (ZI node), none, none, none, none, none] [] 284 σ
  refine zr_aload_n (pc := 0) hV dX1_emit_0 rfl rfl ?_
  obtain ⟨o1, eo1⟩ : ∃ o, σ 255 1 = o := ⟨_, rfl⟩
  have ko1 : zc_kd o1 = 256 := eo1 ▸ zc_g255_1 hσ zc_s255
  have po1 := zc_pos ko1 rfl
  refine zr_getR (pc := 1) hV 1 o1 dX1_emit_1 fX1_12 rfl rfl (zc_k255 zc_s255) (zc_pos zc_s255 rfl) (by omega) (zc_pos ko1 rfl).1 ?_
  refine zr_iload_n (pc := 4) hV dX1_emit_4 rfl rfl ?_
  refine zr_callVp (pc := 5) hV [ZI node] (st := []) (c_X7_isVariable (σ := σ) hσ o1 ko1 node (by omega)) dX1_emit_5 mX1_66 (zc_k256 ko1) (zc_pos ko1 rfl) (by decide) (Nat.le_of_ble_eq_true rfl) (Nat.le_refl _) (fun r5 hr5 pr5 => ?_)
  have J24 : ∀ (v0_24 : Int), ((-2147483648) ≤ v0_24 ∧ v0_24 ≤ 2147483647) → V 24 [some (ZR 255), some (ZI node), none, none, none, none, none] [ZI v0_24] 284 σ := by
    intro v0_24 hv0_24
    show V 24 [some (ZR 255), some (ZI node), none, none, none, none, none] [ZI v0_24] 284 σ
    refine zr_istore_n (pc := 24) hV [some (ZR 255), some (ZI node), some (ZI v0_24), none, none, none, none] dX1_emit_24 rfl (by decide) rfl rfl ?_
    refine zr_aload_n (pc := 25) hV dX1_emit_25 rfl rfl ?_
    refine zr_getR (pc := 26) hV 0 3 dX1_emit_26 fX1_34 rfl rfl (zc_k255 zc_s255) (zc_pos zc_s255 rfl) (zc_g255_0 hσ zc_s255) (by decide) ?_
    refine zr_iload_n (pc := 29) hV dX1_emit_29 rfl rfl ?_
    refine zr_callVr (pc := 30) hV [ZI v0_24] (st := []) (c_X9_numbered (σ := σ) hσ v0_24 (by omega)) dX1_emit_30 mX1_87 (zc_k3 zc_s3) (zc_pos zc_s3 rfl) (by decide) (Nat.le_of_ble_eq_true rfl) (Nat.le_refl _) (fun r30 pr30 => ?_)
    refine zr_astore_nQ (pc := 33) hV [some (ZR 255), some (ZI node), some (ZI v0_24), some (zq_nr r30), none, none, none] dX1_emit_33 rfl (by decide) rfl rfl ?_
    refine zr_aload_nQ (pc := 34) hV dX1_emit_34 rfl rfl ?_
    by_cases c1 : r30 < 0
    · rw [zq_nr_n c1]
      refine zr_ifnullN (pc := 35) hV 63 dX1_emit_35 (by decide) ?_
      show V 63 [some (ZR 255), some (ZI node), some (ZI v0_24), some (ZN), none, none, none] [] 284 σ
      refine zr_iconst (pc := 63) hV 0 dX1_emit_63 rfl ?_
      exact zr_zret (pc := 64) hV dX1_emit_64 rfl rfl (by omega) ⟨_, rfl, ⟨by decide, by decide⟩, hσ, hFσ, (by omega)⟩
    · rw [zq_nr_p c1]
      have kr30 : zc_kd r30 = 4 := pr30.1 (by omega)
      have por30 := zc_pos kr30 rfl
      refine zr_ifnull (pc := 35) hV dX1_emit_35 ?_
      show V 38 [some (ZR 255), some (ZI node), some (ZI v0_24), some (ZR r30), none, none, none] [] 284 σ
      refine zr_aload_n (pc := 38) hV dX1_emit_38 rfl rfl ?_
      refine zr_getR (pc := 39) hV 7 274 dX1_emit_39 fX1_28 rfl rfl (zc_k255 zc_s255) (zc_pos zc_s255 rfl) (zc_g255_7 hσ zc_s255) (by decide) ?_
      refine zr_iload_n (pc := 42) hV dX1_emit_42 rfl rfl ?_
      refine zr_iald (pc := 43) hV dX1_emit_43 (zc_k274 zc_s274) (zc_pos zc_s274 rfl) rfl (by omega) ?_
      have t2 := zc_ga274 hσ zc_s274 node
      refine zr_aload_n (pc := 44) hV dX1_emit_44 rfl rfl ?_
      refine zr_getR (pc := 45) hV 0 3 dX1_emit_45 fX1_34 rfl rfl (zc_k255 zc_s255) (zc_pos zc_s255 rfl) (zc_g255_0 hσ zc_s255) (by decide) ?_
      refine zr_callVp (pc := 48) hV [] (st := [ZI (σ 274 node)]) (c_X9_registers (σ := σ) hσ) dX1_emit_48 mX1_167 (zc_k3 zc_s3) (zc_pos zc_s3 rfl) (by decide) (Nat.le_of_ble_eq_true rfl) (Nat.le_refl _) (fun r48 hr48 pr48 => ?_)
      refine zr_icmp_ge (pc := 51) hV 63 dX1_emit_51 (by decide) (by omega) (by omega) (fun c3 => ?_) (fun c3 => ?_)
      · show V 63 [some (ZR 255), some (ZI node), some (ZI v0_24), some (ZR r30), none, none, none] [] 284 σ
        refine zr_iconst (pc := 63) hV 0 dX1_emit_63 rfl ?_
        exact zr_zret (pc := 64) hV dX1_emit_64 rfl rfl (by omega) ⟨_, rfl, ⟨by decide, by decide⟩, hσ, hFσ, (by omega)⟩
      · show V 54 [some (ZR 255), some (ZI node), some (ZI v0_24), some (ZR r30), none, none, none] [] 284 σ
        refine zr_aload_n (pc := 54) hV dX1_emit_54 rfl rfl ?_
        refine zr_getI (pc := 55) hV 9 dX1_emit_55 fX1_146 rfl rfl (zc_k255 zc_s255) (zc_pos zc_s255 rfl) ?_
        have t4 := zc_g255_9 hσ zc_s255
        refine zr_bipush (pc := 58) hV 64 dX1_emit_58 (by decide) ?_
        refine zr_icmp_lt (pc := 60) hV 65 dX1_emit_60 (by decide) (by omega) ⟨by decide, by decide⟩ (fun c5 => ?_) (fun c5 => ?_)
        · show V 65 [some (ZR 255), some (ZI node), some (ZI v0_24), some (ZR r30), none, none, none] [] 284 σ
          refine zr_aload_n (pc := 65) hV dX1_emit_65 rfl rfl ?_
          refine zr_aload_n (pc := 66) hV dX1_emit_66 rfl rfl ?_
          refine zr_getI (pc := 67) hV 2 dX1_emit_67 fX1_170 rfl rfl (zc_k4 kr30) (zc_pos kr30 rfl) ?_
          have t6 := zc_g4_2 hσ kr30
          refine zr_iconst (pc := 70) hV 0 dX1_emit_70 rfl ?_
          refine zr_aload_n (pc := 71) hV dX1_emit_71 rfl rfl ?_
          refine zr_getR (pc := 72) hV 7 274 dX1_emit_72 fX1_28 rfl rfl (zc_k255 zc_s255) (zc_pos zc_s255 rfl) (zc_g255_7 hσ zc_s255) (by decide) ?_
          refine zr_iload_n (pc := 75) hV dX1_emit_75 rfl rfl ?_
          refine zr_iald (pc := 76) hV dX1_emit_76 (zc_k274 zc_s274) (zc_pos zc_s274 rfl) rfl (by omega) ?_
          have t7 := zc_ga274 hσ zc_s274 node
          have t8 := zc_g4_2 hσ kr30
          refine zr_callVp (pc := 77) hV [ZI (σ r30 2), ZI 0, ZI (σ 274 node)] (st := []) (c_X3_withField (σ := σ) hσ r30 kr30 (σ r30 2) 0 (σ 274 node) (by omega) (by omega) (by omega)) dX1_emit_77 mX1_173 (zc_k4 kr30) (zc_pos kr30 rfl) (by decide) (Nat.le_of_ble_eq_true rfl) (Nat.le_refl _) (fun r77 hr77 pr77 => ?_)
          refine zr_istore (pc := 80) hV [some (ZR 255), some (ZI node), some (ZI v0_24), some (ZR r30), some (ZI r77), none, none] dX1_emit_80 (by decide) rfl rfl ?_
          refine zr_aload_n (pc := 82) hV dX1_emit_82 rfl rfl ?_
          refine zr_getI (pc := 83) hV 14 dX1_emit_83 fX1_105 rfl rfl (zc_k4 kr30) (zc_pos kr30 rfl) ?_
          have t9 := zc_g4_14 hσ kr30
          refine zr_iconst (pc := 86) hV 2 dX1_emit_86 rfl ?_
          refine zr_icmp_ne (pc := 87) hV 111 dX1_emit_87 (by decide) (by omega) ⟨by decide, by decide⟩ (fun c10 => ?_) (fun c10 => ?_)
          · show V 111 [some (ZR 255), some (ZI node), some (ZI v0_24), some (ZR r30), some (ZI r77), none, none] [] 284 σ
            refine zr_aload_n (pc := 111) hV dX1_emit_111 rfl rfl ?_
            refine zr_getI (pc := 112) hV 14 dX1_emit_112 fX1_105 rfl rfl (zc_k4 kr30) (zc_pos kr30 rfl) ?_
            have t11 := zc_g4_14 hσ kr30
            refine zr_iconst (pc := 115) hV 1 dX1_emit_115 rfl ?_
            refine zr_icmp_ne (pc := 116) hV 140 dX1_emit_116 (by decide) (by omega) ⟨by decide, by decide⟩ (fun c12 => ?_) (fun c12 => ?_)
            · show V 140 [some (ZR 255), some (ZI node), some (ZI v0_24), some (ZR r30), some (ZI r77), none, none] [] 284 σ
              refine zr_aload_n (pc := 140) hV dX1_emit_140 rfl rfl ?_
              refine zr_getR (pc := 141) hV 1 o1 dX1_emit_141 fX1_12 rfl rfl (zc_k255 zc_s255) (zc_pos zc_s255 rfl) (by omega) (zc_pos ko1 rfl).1 ?_
              refine zr_getR (pc := 144) hV 2 (o1 + 3) dX1_emit_144 fX1_122 rfl rfl (zc_k256 ko1) (zc_pos ko1 rfl) (zc_g256_2 hσ ko1) (zc_pos (zc_p256_3 ko1) rfl).1 ?_
              refine zr_iload_n (pc := 147) hV dX1_emit_147 rfl rfl ?_
              refine zr_iald (pc := 148) hV dX1_emit_148 (zc_k259 (zc_p256_3 ko1)) (zc_pos (zc_p256_3 ko1) rfl) rfl (by omega) ?_
              have t13 := zc_ga259 hσ (zc_p256_3 ko1) node
              refine zr_istore (pc := 149) hV [some (ZR 255), some (ZI node), some (ZI v0_24), some (ZR r30), some (ZI r77), some (ZI (σ (o1 + 3) node)), none] dX1_emit_149 (by decide) rfl rfl ?_
              refine zr_aload_n (pc := 151) hV dX1_emit_151 rfl rfl ?_
              refine zr_getR (pc := 152) hV 1 o1 dX1_emit_152 fX1_12 rfl rfl (zc_k255 zc_s255) (zc_pos zc_s255 rfl) (by omega) (zc_pos ko1 rfl).1 ?_
              refine zr_getR (pc := 155) hV 3 (o1 + 4) dX1_emit_155 fX1_125 rfl rfl (zc_k256 ko1) (zc_pos ko1 rfl) (zc_g256_3 hσ ko1) (zc_pos (zc_p256_4 ko1) rfl).1 ?_
              refine zr_iload_n (pc := 158) hV dX1_emit_158 rfl rfl ?_
              refine zr_iald (pc := 159) hV dX1_emit_159 (zc_k260 (zc_p256_4 ko1)) (zc_pos (zc_p256_4 ko1) rfl) rfl (by omega) ?_
              have t14 := zc_ga260 hσ (zc_p256_4 ko1) node
              refine zr_istore (pc := 160) hV [some (ZR 255), some (ZI node), some (ZI v0_24), some (ZR r30), some (ZI r77), some (ZI (σ (o1 + 3) node)), some (ZI (σ (o1 + 4) node))] dX1_emit_160 (by decide) rfl rfl ?_
              refine zr_aload_n (pc := 162) hV dX1_emit_162 rfl rfl ?_
              refine zr_iload (pc := 163) hV dX1_emit_163 rfl ?_
              refine zr_iconst (pc := 165) hV 1 dX1_emit_165 rfl ?_
              refine zr_aload_n (pc := 166) hV dX1_emit_166 rfl rfl ?_
              refine zr_aload_n (pc := 167) hV dX1_emit_167 rfl rfl ?_
              refine zr_getI (pc := 168) hV 14 dX1_emit_168 fX1_105 rfl rfl (zc_k4 kr30) (zc_pos kr30 rfl) ?_
              have t15 := zc_g4_14 hσ kr30
              refine zr_iconst (pc := 171) hV 5 dX1_emit_171 rfl ?_
              have J182 : ∀ (v0_182 : Int), (0 ≤ v0_182 ∧ v0_182 ≤ 38) → V 182 [some (ZR 255), none, none, some (ZR r30), none, none, some (ZI (σ (o1 + 4) node))] [ZI v0_182, ZR 255, ZI 1, ZI r77, ZR r30] 284 σ := by
                intro v0_182 hv0_182
                show V 182 [some (ZR 255), none, none, some (ZR r30), none, none, some (ZI (σ (o1 + 4) node))] [ZI v0_182, ZR 255, ZI 1, ZI r77, ZR r30] 284 σ
                refine zr_callVp (pc := 182) hV [ZI v0_182] (st := [ZI 1, ZI r77, ZR r30]) (c_X1_registerOf (σ := σ) hσ v0_182 (by omega)) dX1_emit_182 mX1_177 (zc_k255 zc_s255) (zc_pos zc_s255 rfl) (by decide) (Nat.le_of_ble_eq_true rfl) (Nat.le_refl _) (fun r182 hr182 pr182 => ?_)
                refine zr_callVp (pc := 185) hV [ZI r77, ZI 1, ZI r182] (st := []) (c_X3_withField (σ := σ) hσ r30 kr30 r77 1 r182 (by omega) (by omega) (by omega)) dX1_emit_185 mX1_173 (zc_k4 kr30) (zc_pos kr30 rfl) (by decide) (Nat.le_of_ble_eq_true rfl) (Nat.le_refl _) (fun r185 hr185 pr185 => ?_)
                refine zr_istore (pc := 188) hV [some (ZR 255), none, none, some (ZR r30), some (ZI r185), none, some (ZI (σ (o1 + 4) node))] dX1_emit_188 (by decide) rfl rfl ?_
                refine zr_aload_n (pc := 190) hV dX1_emit_190 rfl rfl ?_
                refine zr_iload (pc := 191) hV dX1_emit_191 rfl ?_
                refine zr_iconst (pc := 193) hV 2 dX1_emit_193 rfl ?_
                refine zr_aload_n (pc := 194) hV dX1_emit_194 rfl rfl ?_
                refine zr_iload (pc := 195) hV dX1_emit_195 rfl ?_
                refine zr_callVp (pc := 197) hV [ZI (σ (o1 + 4) node)] (st := [ZI 2, ZI r185, ZR r30]) (c_X1_registerOf (σ := σ) hσ (σ (o1 + 4) node) (by omega)) dX1_emit_197 mX1_177 (zc_k255 zc_s255) (zc_pos zc_s255 rfl) (by decide) (Nat.le_of_ble_eq_true rfl) (Nat.le_refl _) (fun r197 hr197 pr197 => ?_)
                refine zr_callVp (pc := 200) hV [ZI r185, ZI 2, ZI r197] (st := []) (c_X3_withField (σ := σ) hσ r30 kr30 r185 2 r197 (by omega) (by omega) (by omega)) dX1_emit_200 mX1_173 (zc_k4 kr30) (zc_pos kr30 rfl) (by decide) (Nat.le_of_ble_eq_true rfl) (Nat.le_refl _) (fun r200 hr200 pr200 => ?_)
                refine zr_istore (pc := 203) hV [some (ZR 255), none, none, some (ZR r30), some (ZI r200), none, some (ZI (σ (o1 + 4) node))] dX1_emit_203 (by decide) rfl rfl ?_
                refine zr_aload_n (pc := 205) hV dX1_emit_205 rfl rfl ?_
                refine zr_iload (pc := 206) hV dX1_emit_206 rfl ?_
                refine zr_iconst (pc := 208) hV 3 dX1_emit_208 rfl ?_
                refine zr_aload_n (pc := 209) hV dX1_emit_209 rfl rfl ?_
                refine zr_getR (pc := 210) hV 1 o1 dX1_emit_210 fX1_12 rfl rfl (zc_k255 zc_s255) (zc_pos zc_s255 rfl) (by omega) (zc_pos ko1 rfl).1 ?_
                refine zr_getR (pc := 213) hV 1 (o1 + 2) dX1_emit_213 fX1_73 rfl rfl (zc_k256 ko1) (zc_pos ko1 rfl) (zc_g256_1 hσ ko1) (zc_pos (zc_p256_2 ko1) rfl).1 ?_
                refine zr_iload (pc := 216) hV dX1_emit_216 rfl ?_
                refine zr_iald (pc := 218) hV dX1_emit_218 (zc_k258 (zc_p256_2 ko1)) (zc_pos (zc_p256_2 ko1) rfl) rfl (by omega) ?_
                have t16 := zc_ga258 hσ (zc_p256_2 ko1) (σ (o1 + 4) node)
                refine zr_callVp (pc := 219) hV [ZI r200, ZI 3, ZI (σ (o1 + 2) (σ (o1 + 4) node))] (st := []) (c_X3_withField (σ := σ) hσ r30 kr30 r200 3 (σ (o1 + 2) (σ (o1 + 4) node)) (by omega) (by omega) (by omega)) dX1_emit_219 mX1_173 (zc_k4 kr30) (zc_pos kr30 rfl) (by decide) (Nat.le_of_ble_eq_true rfl) (Nat.le_refl _) (fun r219 hr219 pr219 => ?_)
                refine zr_istore (pc := 222) hV [some (ZR 255), none, none, some (ZR r30), some (ZI r219), none, some (ZI (σ (o1 + 4) node))] dX1_emit_222 (by decide) rfl rfl ?_
                show V 224 [some (ZR 255), none, none, some (ZR r30), some (ZI r219), none, some (ZI (σ (o1 + 4) node))] [] 284 σ
                refine zr_aload_n (pc := 224) hV dX1_emit_224 rfl rfl ?_
                refine zr_getR (pc := 225) hV 8 275 dX1_emit_225 fX1_31 rfl rfl (zc_k255 zc_s255) (zc_pos zc_s255 rfl) (zc_g255_8 hσ zc_s255) (by decide) ?_
                refine zr_aload_n (pc := 228) hV dX1_emit_228 rfl rfl ?_
                refine zr_dup (pc := 229) hV dX1_emit_229 (fun _ => rfl) ?_
                refine zr_getI (pc := 230) hV 9 dX1_emit_230 fX1_146 rfl rfl (zc_k255 zc_s255) (zc_pos zc_s255 rfl) ?_
                have t17 := zc_g255_9 hσ zc_s255
                refine zr_dup_x1 (pc := 233) hV dX1_emit_233 (fun _ => rfl) (fun _ => rfl) ?_
                refine zr_iconst (pc := 234) hV 1 dX1_emit_234 rfl ?_
                refine zr_iadd (pc := 235) hV dX1_emit_235 ?_
                refine zr_putI (pc := 236) hV 9 dX1_emit_236 fX1_146 rfl rfl rfl (zc_k255 zc_s255) (zc_pos zc_s255 rfl) (fun σ236 eσ236 => ?_)
                have hσ236 : zc_T σ236 := zc_u255_9 eσ236 hσ zc_s255 (by omega)
                have hFσ236 := zc_Fw eσ236 zc_s255 rfl hFσ
                refine zr_iload (pc := 239) hV dX1_emit_239 rfl ?_
                refine zr_iast (pc := 241) hV dX1_emit_241 (zc_k275 zc_s275) (zc_pos zc_s275 rfl) rfl (by omega) (fun σ241 eσ241 => ?_)
                have hσ241 : zc_T σ241 := zc_ua275 eσ241 hσ236 zc_s275 (by omega)
                have hFσ241 := zc_Fa eσ241 zc_s275 rfl hFσ236
                refine zr_iconst (pc := 242) hV 1 dX1_emit_242 rfl ?_
                exact zr_zret (pc := 243) hV dX1_emit_243 rfl rfl (by omega) ⟨_, rfl, ⟨by decide, by decide⟩, hσ241, hFσ241, (by omega)⟩
              refine zr_icmp_ne (pc := 172) hV 180 dX1_emit_172 (by decide) (by omega) ⟨by decide, by decide⟩ (fun c18 => ?_) (fun c18 => ?_)
              · show V 180 [some (ZR 255), some (ZI node), some (ZI v0_24), some (ZR r30), some (ZI r77), some (ZI (σ (o1 + 3) node)), some (ZI (σ (o1 + 4) node))] [ZR 255, ZI 1, ZI r77, ZR r30] 284 σ
                refine zr_iload (pc := 180) hV dX1_emit_180 rfl ?_
                refine zr_sub (pc := 182) hV [some (ZR 255), none, none, some (ZR r30), none, none, some (ZI (σ (o1 + 4) node))] (⟨rfl, rfl, rfl, trivial⟩) ?_
                exact J182 (σ (o1 + 3) node) (by omega)
              · show V 175 [some (ZR 255), some (ZI node), some (ZI v0_24), some (ZR r30), some (ZI r77), some (ZI (σ (o1 + 3) node)), some (ZI (σ (o1 + 4) node))] [ZR 255, ZI 1, ZI r77, ZR r30] 284 σ
                refine zr_iload (pc := 175) hV dX1_emit_175 rfl ?_
                refine zr_goto (pc := 177) hV 182 dX1_emit_177 (by decide) ?_
                refine zr_sub (pc := 182) hV [some (ZR 255), none, none, some (ZR r30), none, none, some (ZI (σ (o1 + 4) node))] (⟨rfl, rfl, rfl, trivial⟩) ?_
                exact J182 (σ (o1 + 4) node) (by omega)
            · show V 119 [some (ZR 255), some (ZI node), some (ZI v0_24), some (ZR r30), some (ZI r77), none, none] [] 284 σ
              refine zr_aload_n (pc := 119) hV dX1_emit_119 rfl rfl ?_
              refine zr_iload (pc := 120) hV dX1_emit_120 rfl ?_
              refine zr_iconst (pc := 122) hV 3 dX1_emit_122 rfl ?_
              refine zr_aload_n (pc := 123) hV dX1_emit_123 rfl rfl ?_
              refine zr_getR (pc := 124) hV 1 o1 dX1_emit_124 fX1_12 rfl rfl (zc_k255 zc_s255) (zc_pos zc_s255 rfl) (by omega) (zc_pos ko1 rfl).1 ?_
              refine zr_getR (pc := 127) hV 1 (o1 + 2) dX1_emit_127 fX1_73 rfl rfl (zc_k256 ko1) (zc_pos ko1 rfl) (zc_g256_1 hσ ko1) (zc_pos (zc_p256_2 ko1) rfl).1 ?_
              refine zr_iload_n (pc := 130) hV dX1_emit_130 rfl rfl ?_
              refine zr_iald (pc := 131) hV dX1_emit_131 (zc_k258 (zc_p256_2 ko1)) (zc_pos (zc_p256_2 ko1) rfl) rfl (by omega) ?_
              have t19 := zc_ga258 hσ (zc_p256_2 ko1) node
              refine zr_callVp (pc := 132) hV [ZI r77, ZI 3, ZI (σ (o1 + 2) node)] (st := []) (c_X3_withField (σ := σ) hσ r30 kr30 r77 3 (σ (o1 + 2) node) (by omega) (by omega) (by omega)) dX1_emit_132 mX1_173 (zc_k4 kr30) (zc_pos kr30 rfl) (by decide) (Nat.le_of_ble_eq_true rfl) (Nat.le_refl _) (fun r132 hr132 pr132 => ?_)
              refine zr_istore (pc := 135) hV [some (ZR 255), some (ZI node), some (ZI v0_24), some (ZR r30), some (ZI r132), none, none] dX1_emit_135 (by decide) rfl rfl ?_
              refine zr_goto (pc := 137) hV 224 dX1_emit_137 (by decide) ?_
              show V 224 [some (ZR 255), some (ZI node), some (ZI v0_24), some (ZR r30), some (ZI r132), none, none] [] 284 σ
              refine zr_aload_n (pc := 224) hV dX1_emit_224 rfl rfl ?_
              refine zr_getR (pc := 225) hV 8 275 dX1_emit_225 fX1_31 rfl rfl (zc_k255 zc_s255) (zc_pos zc_s255 rfl) (zc_g255_8 hσ zc_s255) (by decide) ?_
              refine zr_aload_n (pc := 228) hV dX1_emit_228 rfl rfl ?_
              refine zr_dup (pc := 229) hV dX1_emit_229 (fun _ => rfl) ?_
              refine zr_getI (pc := 230) hV 9 dX1_emit_230 fX1_146 rfl rfl (zc_k255 zc_s255) (zc_pos zc_s255 rfl) ?_
              have t20 := zc_g255_9 hσ zc_s255
              refine zr_dup_x1 (pc := 233) hV dX1_emit_233 (fun _ => rfl) (fun _ => rfl) ?_
              refine zr_iconst (pc := 234) hV 1 dX1_emit_234 rfl ?_
              refine zr_iadd (pc := 235) hV dX1_emit_235 ?_
              refine zr_putI (pc := 236) hV 9 dX1_emit_236 fX1_146 rfl rfl rfl (zc_k255 zc_s255) (zc_pos zc_s255 rfl) (fun σ236 eσ236 => ?_)
              have hσ236 : zc_T σ236 := zc_u255_9 eσ236 hσ zc_s255 (by omega)
              have hFσ236 := zc_Fw eσ236 zc_s255 rfl hFσ
              refine zr_iload (pc := 239) hV dX1_emit_239 rfl ?_
              refine zr_iast (pc := 241) hV dX1_emit_241 (zc_k275 zc_s275) (zc_pos zc_s275 rfl) rfl (by omega) (fun σ241 eσ241 => ?_)
              have hσ241 : zc_T σ241 := zc_ua275 eσ241 hσ236 zc_s275 (by omega)
              have hFσ241 := zc_Fa eσ241 zc_s275 rfl hFσ236
              refine zr_iconst (pc := 242) hV 1 dX1_emit_242 rfl ?_
              exact zr_zret (pc := 243) hV dX1_emit_243 rfl rfl (by omega) ⟨_, rfl, ⟨by decide, by decide⟩, hσ241, hFσ241, (by omega)⟩
          · show V 90 [some (ZR 255), some (ZI node), some (ZI v0_24), some (ZR r30), some (ZI r77), none, none] [] 284 σ
            refine zr_aload_n (pc := 90) hV dX1_emit_90 rfl rfl ?_
            refine zr_iload (pc := 91) hV dX1_emit_91 rfl ?_
            refine zr_iconst (pc := 93) hV 1 dX1_emit_93 rfl ?_
            refine zr_aload_n (pc := 94) hV dX1_emit_94 rfl rfl ?_
            refine zr_getR (pc := 95) hV 1 o1 dX1_emit_95 fX1_12 rfl rfl (zc_k255 zc_s255) (zc_pos zc_s255 rfl) (by omega) (zc_pos ko1 rfl).1 ?_
            refine zr_getR (pc := 98) hV 1 (o1 + 2) dX1_emit_98 fX1_73 rfl rfl (zc_k256 ko1) (zc_pos ko1 rfl) (zc_g256_1 hσ ko1) (zc_pos (zc_p256_2 ko1) rfl).1 ?_
            refine zr_iload_n (pc := 101) hV dX1_emit_101 rfl rfl ?_
            refine zr_iald (pc := 102) hV dX1_emit_102 (zc_k258 (zc_p256_2 ko1)) (zc_pos (zc_p256_2 ko1) rfl) rfl (by omega) ?_
            have t21 := zc_ga258 hσ (zc_p256_2 ko1) node
            refine zr_callVp (pc := 103) hV [ZI r77, ZI 1, ZI (σ (o1 + 2) node)] (st := []) (c_X3_withField (σ := σ) hσ r30 kr30 r77 1 (σ (o1 + 2) node) (by omega) (by omega) (by omega)) dX1_emit_103 mX1_173 (zc_k4 kr30) (zc_pos kr30 rfl) (by decide) (Nat.le_of_ble_eq_true rfl) (Nat.le_refl _) (fun r103 hr103 pr103 => ?_)
            refine zr_istore (pc := 106) hV [some (ZR 255), some (ZI node), some (ZI v0_24), some (ZR r30), some (ZI r103), none, none] dX1_emit_106 (by decide) rfl rfl ?_
            refine zr_goto (pc := 108) hV 224 dX1_emit_108 (by decide) ?_
            show V 224 [some (ZR 255), some (ZI node), some (ZI v0_24), some (ZR r30), some (ZI r103), none, none] [] 284 σ
            refine zr_aload_n (pc := 224) hV dX1_emit_224 rfl rfl ?_
            refine zr_getR (pc := 225) hV 8 275 dX1_emit_225 fX1_31 rfl rfl (zc_k255 zc_s255) (zc_pos zc_s255 rfl) (zc_g255_8 hσ zc_s255) (by decide) ?_
            refine zr_aload_n (pc := 228) hV dX1_emit_228 rfl rfl ?_
            refine zr_dup (pc := 229) hV dX1_emit_229 (fun _ => rfl) ?_
            refine zr_getI (pc := 230) hV 9 dX1_emit_230 fX1_146 rfl rfl (zc_k255 zc_s255) (zc_pos zc_s255 rfl) ?_
            have t22 := zc_g255_9 hσ zc_s255
            refine zr_dup_x1 (pc := 233) hV dX1_emit_233 (fun _ => rfl) (fun _ => rfl) ?_
            refine zr_iconst (pc := 234) hV 1 dX1_emit_234 rfl ?_
            refine zr_iadd (pc := 235) hV dX1_emit_235 ?_
            refine zr_putI (pc := 236) hV 9 dX1_emit_236 fX1_146 rfl rfl rfl (zc_k255 zc_s255) (zc_pos zc_s255 rfl) (fun σ236 eσ236 => ?_)
            have hσ236 : zc_T σ236 := zc_u255_9 eσ236 hσ zc_s255 (by omega)
            have hFσ236 := zc_Fw eσ236 zc_s255 rfl hFσ
            refine zr_iload (pc := 239) hV dX1_emit_239 rfl ?_
            refine zr_iast (pc := 241) hV dX1_emit_241 (zc_k275 zc_s275) (zc_pos zc_s275 rfl) rfl (by omega) (fun σ241 eσ241 => ?_)
            have hσ241 : zc_T σ241 := zc_ua275 eσ241 hσ236 zc_s275 (by omega)
            have hFσ241 := zc_Fa eσ241 zc_s275 rfl hFσ236
            refine zr_iconst (pc := 242) hV 1 dX1_emit_242 rfl ?_
            exact zr_zret (pc := 243) hV dX1_emit_243 rfl rfl (by omega) ⟨_, rfl, ⟨by decide, by decide⟩, hσ241, hFσ241, (by omega)⟩
        · show V 63 [some (ZR 255), some (ZI node), some (ZI v0_24), some (ZR r30), none, none, none] [] 284 σ
          refine zr_iconst (pc := 63) hV 0 dX1_emit_63 rfl ?_
          exact zr_zret (pc := 64) hV dX1_emit_64 rfl rfl (by omega) ⟨_, rfl, ⟨by decide, by decide⟩, hσ, hFσ, (by omega)⟩
  refine zr_if_eq (pc := 8) hV 18 dX1_emit_8 (by decide) (by omega) (fun c23 => ?_) (fun c23 => ?_)
  · show V 18 [some (ZR 255), some (ZI node), none, none, none, none, none] [] 284 σ
    refine zr_aload_n (pc := 18) hV dX1_emit_18 rfl rfl ?_
    refine zr_getR (pc := 19) hV 6 273 dX1_emit_19 fX1_25 rfl rfl (zc_k255 zc_s255) (zc_pos zc_s255 rfl) (zc_g255_6 hσ zc_s255) (by decide) ?_
    refine zr_iload_n (pc := 22) hV dX1_emit_22 rfl rfl ?_
    refine zr_iald (pc := 23) hV dX1_emit_23 (zc_k273 zc_s273) (zc_pos zc_s273 rfl) rfl (by omega) ?_
    have t24 := zc_ga273 hσ zc_s273 node
    exact J24 (σ 273 node) (by omega)
  · show V 11 [some (ZR 255), some (ZI node), none, none, none, none, none] [] 284 σ
    refine zr_aload_n (pc := 11) hV dX1_emit_11 rfl rfl ?_
    refine zr_callVp (pc := 12) hV [] (st := []) (c_X1_leastMove (σ := σ) hσ) dX1_emit_12 mX1_56 (zc_k255 zc_s255) (zc_pos zc_s255 rfl) (by decide) (Nat.le_of_ble_eq_true rfl) (Nat.le_refl _) (fun r12 hr12 pr12 => ?_)
    refine zr_goto (pc := 15) hV 24 dX1_emit_15 (by decide) ?_
    exact J24 r12 (by omega)
set_option maxHeartbeats 800000 in
theorem c_X1_makeInto {σ : zq_S} (hσ : zc_T σ) (place : Int) (q0 : 0 ≤ place ∧ place ≤ 63) (Nσ : zc_N σ) : zq_C zc_w yX1_makeInto cX1_makeInto 4 (some .int) 6 135 284 284 [ZR 255, ZR 139, ZI place] σ (zq_pi (fun r τ => zc_T τ ∧ zc_Fr [(139, -1), (255, 9), (272, -1), (273, -1), (274, -1), (275, -1)] σ τ ∧ (True) ∧ zc_N τ)) := by
  refine zq_C_of (by decide) (Nat.le_refl _) (Nat.le_of_ble_eq_true rfl) [some (ZR 255), some (ZR 139), some (ZI place), none] rfl (fun V hV => ?_)
  have hFσ := zc_Fr_rf [(139, -1), (255, 9), (272, -1), (273, -1), (274, -1), (275, -1)] σ
  obtain ⟨told, etold⟩ : ∃ o, σ 255 1 = o := ⟨_, rfl⟩
  have ktold : zc_kd told = 256 := etold ▸ zc_g255_1 hσ zc_s255
  have potold := zc_pos ktold rfl
  have hN := Nσ
  unfold zc_N at hN
  rw [etold] at hN
  show V 0 [some (ZR 255), some (ZR 139), some (ZI place), none] [] 284 σ
  refine zr_aload_n (pc := 0) hV dX1_makeInto_0 rfl rfl ?_
  refine zr_callVi (pc := 1) hV [] (st := []) (c_X1_priceOfSum (σ := σ) hσ Nσ) dX1_makeInto_1 mX1_140 (zc_k255 zc_s255) (zc_pos zc_s255 rfl) (by decide) (Nat.le_of_ble_eq_true rfl) (Nat.le_refl _) (fun r1 σ1 hr1 pσ1 => ?_)
  obtain ⟨hσ1, hfσ1, pσ1, Nσ1⟩ := pσ1
  have hFσ1 := zc_Fc hfσ1 rfl hFσ
  refine zr_bipush (pc := 4) hV (-4) dX1_makeInto_4 (by decide) ?_
  refine zr_icmp_ne (pc := 6) hV 12 dX1_makeInto_6 (by decide) (by omega) ⟨by decide, by decide⟩ (fun c1 => ?_) (fun c1 => ?_)
  · show V 12 [some (ZR 255), some (ZR 139), some (ZI place), none] [] 284 σ1
    refine zr_aload_n (pc := 12) hV dX1_makeInto_12 rfl rfl ?_
    refine zr_callVv (pc := 13) hV [] (st := []) (c_X1_chooseRegisters (σ := σ1) hσ1 Nσ1) dX1_makeInto_13 mX1_143 (zc_k255 zc_s255) (zc_pos zc_s255 rfl) (by decide) (Nat.le_of_ble_eq_true rfl) (Nat.le_refl _) (fun σ13 pσ13 => ?_)
    obtain ⟨hσ13, hfσ13, pσ13, Nσ13⟩ := pσ13
    have hFσ13 := zc_Fc hfσ13 rfl hFσ1
    refine zr_aload_n (pc := 16) hV dX1_makeInto_16 rfl rfl ?_
    refine zr_iconst (pc := 17) hV 0 dX1_makeInto_17 rfl ?_
    refine zr_putI (pc := 18) hV 9 dX1_makeInto_18 fX1_146 rfl rfl rfl (zc_k255 zc_s255) (zc_pos zc_s255 rfl) (fun σ18 eσ18 => ?_)
    have hσ18 : zc_T σ18 := zc_u255_9 eσ18 hσ13 zc_s255 (by omega)
    have hFσ18 := zc_Fw eσ18 zc_s255 rfl hFσ13
    have Nσ18 : zc_N σ18 := zc_N_fr (zc_Fw eσ18 zc_s255 rfl (zc_Fr_rf [(255, 9)] _)) rfl hσ13 Nσ13
    refine zr_iconst (pc := 21) hV 0 dX1_makeInto_21 rfl ?_
    refine zr_istore_n (pc := 22) hV [some (ZR 255), some (ZR 139), some (ZI place), some (ZI 0)] dX1_makeInto_22 rfl (by decide) rfl rfl ?_
    have L23 : ∀ (fuel : Nat) (x3_23 : Int) (σ_23 : zq_S), (0 ≤ x3_23 ∧ x3_23 ≤ 39) → (zc_T σ_23) → (zc_Fr [(139, -1), (255, 9), (272, -1), (273, -1), (274, -1), (275, -1)] σ σ_23) → (zc_N σ_23) → 39 - x3_23 < (fuel : Int) → V 23 [some (ZR 255), some (ZR 139), some (ZI place), some (ZI x3_23)] [] 284 σ_23 := by
      intro fuel
      induction fuel with
      | zero =>
        intro x3_23 σ_23 hx3_23 hσ_23 hFσ_23 Nσ_23 hm23
        exfalso; omega
      | succ fuel ih =>
        intro x3_23 σ_23 hx3_23 hσ_23 hFσ_23 Nσ_23 hm23
        have ih23 := ih
        show V 23 [some (ZR 255), some (ZR 139), some (ZI place), some (ZI x3_23)] [] 284 σ_23
        refine zr_iload_n (pc := 23) hV dX1_makeInto_23 rfl rfl ?_
        refine zr_aload_n (pc := 24) hV dX1_makeInto_24 rfl rfl ?_
        have t2 : σ_23 255 1 = σ 255 1 := hFσ_23 _ _ (zc_out_at zc_s255 rfl)
        refine zr_getR (pc := 25) hV 1 told dX1_makeInto_25 fX1_12 rfl rfl (zc_k255 zc_s255) (zc_pos zc_s255 rfl) (by omega) (zc_pos ktold rfl).1 ?_
        refine zr_getI (pc := 28) hV 5 dX1_makeInto_28 fX1_63 rfl rfl (zc_k256 ktold) (zc_pos ktold rfl) ?_
        have t3 := zc_g256_5 hσ_23 ktold
        have t4 : σ_23 told 5 = σ told 5 := hFσ_23 _ _ (zc_out_at ktold rfl)
        refine zr_icmp_ge (pc := 31) hV 61 dX1_makeInto_31 (by decide) (by omega) (by omega) (fun c5 => ?_) (fun c5 => ?_)
        · show V 61 [some (ZR 255), some (ZR 139), some (ZI place), some (ZI x3_23)] [] 284 σ_23
          refine zr_iload_n (pc := 61) hV dX1_makeInto_61 rfl rfl ?_
          refine zr_aload_n (pc := 62) hV dX1_makeInto_62 rfl rfl ?_
          refine zr_getI (pc := 63) hV 9 dX1_makeInto_63 fX1_146 rfl rfl (zc_k255 zc_s255) (zc_pos zc_s255 rfl) ?_
          have t6 := zc_g255_9 hσ_23 zc_s255
          refine zr_iadd (pc := 66) hV dX1_makeInto_66 ?_
          refine zr_bipush (pc := 67) hV 64 dX1_makeInto_67 (by decide) ?_
          refine zr_icmp_le (pc := 69) hV 75 dX1_makeInto_69 (by decide) (by omega) ⟨by decide, by decide⟩ (fun c7 => ?_) (fun c7 => ?_)
          · show V 75 [some (ZR 255), some (ZR 139), some (ZI place), some (ZI x3_23)] [] 284 σ_23
            refine zr_aload_n (pc := 75) hV dX1_makeInto_75 rfl rfl ?_
            refine zr_getR (pc := 76) hV 8 275 dX1_makeInto_76 fX1_31 rfl rfl (zc_k255 zc_s255) (zc_pos zc_s255 rfl) (zc_g255_8 hσ_23 zc_s255) (by decide) ?_
            refine zr_iconst (pc := 79) hV 0 dX1_makeInto_79 rfl ?_
            refine zr_aload_n (pc := 80) hV dX1_makeInto_80 rfl rfl ?_
            refine zr_iload_n (pc := 81) hV dX1_makeInto_81 rfl rfl ?_
            refine zr_aload_n (pc := 82) hV dX1_makeInto_82 rfl rfl ?_
            refine zr_getI (pc := 83) hV 9 dX1_makeInto_83 fX1_146 rfl rfl (zc_k255 zc_s255) (zc_pos zc_s255 rfl) ?_
            have t8 := zc_g255_9 hσ_23 zc_s255
            refine zr_copy (pc := 86) hV dX1_makeInto_86 lX1_152 lcp_nat lcp_stat lcp_ini (zc_k275 zc_s275) (zc_k139 zc_s139) (zc_pos zc_s275 rfl) (zc_pos zc_s139 rfl) rfl rfl (by omega) (by omega) (by omega) rfl rfl (fun σ86 eσ86 => ?_)
            have hσ86 : zc_T σ86 := zc_Tcell eσ86 hσ_23 zc_s139 (fun i => by split; exact zc_ga275 hσ_23 zc_s275 _; exact zc_ga139 hσ_23 zc_s139 _)
            have hFσ86 := zc_Fcell eσ86 zc_s139 rfl hFσ_23
            have Nσ86 : zc_N σ86 := zc_N_fr (zc_Fcell eσ86 zc_s139 rfl (zc_Fr_rf [(139, -1)] _)) rfl hσ_23 Nσ_23
            refine zr_aload_n (pc := 89) hV dX1_makeInto_89 rfl rfl ?_
            refine zr_getI (pc := 90) hV 9 dX1_makeInto_90 fX1_146 rfl rfl (zc_k255 zc_s255) (zc_pos zc_s255 rfl) ?_
            have t9 := zc_g255_9 hσ86 zc_s255
            have t10 : σ86 255 9 = σ_23 255 9 := by rw [eσ86]; exact zc_cell_ne (zc_dk zc_s255 zc_s139 rfl)
            exact zr_iret (pc := 93) hV dX1_makeInto_93 rfl rfl ⟨_, rfl, (by omega), hσ86, hFσ86, trivial, Nσ86⟩
          · show V 72 [some (ZR 255), some (ZR 139), some (ZI place), some (ZI x3_23)] [] 284 σ_23
            refine zr_bipush (pc := 72) hV (-3) dX1_makeInto_72 (by decide) ?_
            exact zr_iret (pc := 74) hV dX1_makeInto_74 rfl rfl ⟨_, rfl, ⟨by decide, by decide⟩, hσ_23, hFσ_23, trivial, Nσ_23⟩
        · show V 34 [some (ZR 255), some (ZR 139), some (ZI place), some (ZI x3_23)] [] 284 σ_23
          refine zr_aload_n (pc := 34) hV dX1_makeInto_34 rfl rfl ?_
          refine zr_getR (pc := 35) hV 7 274 dX1_makeInto_35 fX1_28 rfl rfl (zc_k255 zc_s255) (zc_pos zc_s255 rfl) (zc_g255_7 hσ_23 zc_s255) (by decide) ?_
          refine zr_iload_n (pc := 38) hV dX1_makeInto_38 rfl rfl ?_
          refine zr_iald (pc := 39) hV dX1_makeInto_39 (zc_k274 zc_s274) (zc_pos zc_s274 rfl) rfl (by omega) ?_
          have t11 := zc_ga274 hσ_23 zc_s274 x3_23
          refine zr_iconst (pc := 40) hV (-1) dX1_makeInto_40 rfl ?_
          refine zr_icmp_eq (pc := 41) hV 55 dX1_makeInto_41 (by decide) (by omega) ⟨by decide, by decide⟩ (fun c12 => ?_) (fun c12 => ?_)
          · show V 55 [some (ZR 255), some (ZR 139), some (ZI place), some (ZI x3_23)] [] 284 σ_23
            refine zr_iinc (pc := 55) hV [some (ZR 255), some (ZR 139), some (ZI place), some (ZI (x3_23 + 1))] (x3_23 + 1) dX1_makeInto_55 rfl rfl (by decide) rfl rfl ?_
            refine zr_goto (pc := 58) hV 23 dX1_makeInto_58 (by decide) ?_
            exact ih23 (x3_23 + 1) σ_23 (by omega) hσ_23 hFσ_23 Nσ_23 (by omega)
          · show V 44 [some (ZR 255), some (ZR 139), some (ZI place), some (ZI x3_23)] [] 284 σ_23
            refine zr_aload_n (pc := 44) hV dX1_makeInto_44 rfl rfl ?_
            refine zr_iload_n (pc := 45) hV dX1_makeInto_45 rfl rfl ?_
            refine zr_callVi (pc := 46) hV [ZI x3_23] (st := []) (c_X1_emit (σ := σ_23) hσ_23 x3_23 (by omega)) dX1_makeInto_46 mX1_149 (zc_k255 zc_s255) (zc_pos zc_s255 rfl) (by decide) (Nat.le_of_ble_eq_true rfl) (Nat.le_refl _) (fun r46 σ46 hr46 pσ46 => ?_)
            obtain ⟨hσ46, hfσ46, pσ46⟩ := pσ46
            have hFσ46 := zc_Fc hfσ46 rfl hFσ_23
            have Nσ46 : zc_N σ46 := zc_N_fr hfσ46 rfl hσ_23 Nσ_23
            refine zr_if_ne (pc := 49) hV 55 dX1_makeInto_49 (by decide) (by omega) (fun c13 => ?_) (fun c13 => ?_)
            · show V 55 [some (ZR 255), some (ZR 139), some (ZI place), some (ZI x3_23)] [] 284 σ46
              refine zr_iinc (pc := 55) hV [some (ZR 255), some (ZR 139), some (ZI place), some (ZI (x3_23 + 1))] (x3_23 + 1) dX1_makeInto_55 rfl rfl (by decide) rfl rfl ?_
              refine zr_goto (pc := 58) hV 23 dX1_makeInto_58 (by decide) ?_
              exact ih23 (x3_23 + 1) σ46 (by omega) hσ46 hFσ46 Nσ46 (by omega)
            · show V 52 [some (ZR 255), some (ZR 139), some (ZI place), some (ZI x3_23)] [] 284 σ46
              refine zr_bipush (pc := 52) hV (-3) dX1_makeInto_52 (by decide) ?_
              exact zr_iret (pc := 54) hV dX1_makeInto_54 rfl rfl ⟨_, rfl, ⟨by decide, by decide⟩, hσ46, hFσ46, trivial, Nσ46⟩
    exact L23 (39 - (0 : Int) + 1 : Int).toNat 0 σ18 (by omega) hσ18 hFσ18 Nσ18 (by omega)
  · show V 9 [some (ZR 255), some (ZR 139), some (ZI place), none] [] 284 σ1
    refine zr_bipush (pc := 9) hV (-4) dX1_makeInto_9 (by decide) ?_
    exact zr_iret (pc := 11) hV dX1_makeInto_11 rfl rfl ⟨_, rfl, ⟨by decide, by decide⟩, hσ1, hFσ1, trivial, Nσ1⟩

