set_option maxHeartbeats 800000 in
theorem c_X1_takesRegister_2 {σ : zq_S} (form : Int) (q0 : zq_in form) : zq_C zc_w yX1_takesRegister cX1_takesRegister 1 (some .boolean) 0 0 284 284 [ZI form] σ (zq_pp σ (fun r => (0 ≤ r ∧ r ≤ 1) ∧ (r = 1 ↔ form = 3 ∨ form = 5))) := by
  refine zq_C_of (by decide) (Nat.le_refl _) (Nat.le_of_ble_eq_true rfl) [some (ZI form)] rfl (fun V hV => ?_)
  show V 0 [some (ZI form)] [] 284 σ
  refine zr_iload_n (pc := 0) hV dX1_takesRegister_0 rfl rfl ?_
  refine zr_iconst (pc := 1) hV 3 dX1_takesRegister_1 rfl ?_
  refine zr_icmp_eq (pc := 2) hV 10 dX1_takesRegister_2 (by decide) (by omega) ⟨by decide, by decide⟩ (fun c1 => ?_) (fun c1 => ?_)
  · show V 10 [some (ZI form)] [] 284 σ
    refine zr_iconst (pc := 10) hV 1 dX1_takesRegister_10 rfl ?_
    refine zr_goto (pc := 11) hV 15 dX1_takesRegister_11 (by decide) ?_
    show V 15 [some (ZI form)] [ZI 1] 284 σ
    exact zr_zret (pc := 15) hV dX1_takesRegister_15 rfl rfl (by omega) ⟨rfl, _, rfl, ⟨by decide, by decide⟩, (by omega)⟩
  · show V 5 [some (ZI form)] [] 284 σ
    refine zr_iload_n (pc := 5) hV dX1_takesRegister_5 rfl rfl ?_
    refine zr_iconst (pc := 6) hV 5 dX1_takesRegister_6 rfl ?_
    refine zr_icmp_ne (pc := 7) hV 14 dX1_takesRegister_7 (by decide) (by omega) ⟨by decide, by decide⟩ (fun c2 => ?_) (fun c2 => ?_)
    · show V 14 [some (ZI form)] [] 284 σ
      refine zr_iconst (pc := 14) hV 0 dX1_takesRegister_14 rfl ?_
      show V 15 [some (ZI form)] [ZI 0] 284 σ
      exact zr_zret (pc := 15) hV dX1_takesRegister_15 rfl rfl (by omega) ⟨rfl, _, rfl, ⟨by decide, by decide⟩, (by omega)⟩
    · show V 10 [some (ZI form)] [] 284 σ
      refine zr_iconst (pc := 10) hV 1 dX1_takesRegister_10 rfl ?_
      refine zr_goto (pc := 11) hV 15 dX1_takesRegister_11 (by decide) ?_
      show V 15 [some (ZI form)] [ZI 1] 284 σ
      exact zr_zret (pc := 15) hV dX1_takesRegister_15 rfl rfl (by omega) ⟨rfl, _, rfl, ⟨by decide, by decide⟩, (by omega)⟩
set_option maxHeartbeats 800000 in
theorem c_X1_worksInPlace_2 {σ : zq_S} (form : Int) (q0 : zq_in form) : zq_C zc_w yX1_worksInPlace cX1_worksInPlace 1 (some .boolean) 0 0 284 284 [ZI form] σ (zq_pp σ (fun r => (0 ≤ r ∧ r ≤ 1) ∧ (r = 1 ↔ form = 5 ∨ form = 6))) := by
  refine zq_C_of (by decide) (Nat.le_refl _) (Nat.le_of_ble_eq_true rfl) [some (ZI form)] rfl (fun V hV => ?_)
  show V 0 [some (ZI form)] [] 284 σ
  refine zr_iload_n (pc := 0) hV dX1_worksInPlace_0 rfl rfl ?_
  refine zr_iconst (pc := 1) hV 5 dX1_worksInPlace_1 rfl ?_
  refine zr_icmp_eq (pc := 2) hV 11 dX1_worksInPlace_2 (by decide) (by omega) ⟨by decide, by decide⟩ (fun c1 => ?_) (fun c1 => ?_)
  · show V 11 [some (ZI form)] [] 284 σ
    refine zr_iconst (pc := 11) hV 1 dX1_worksInPlace_11 rfl ?_
    refine zr_goto (pc := 12) hV 16 dX1_worksInPlace_12 (by decide) ?_
    show V 16 [some (ZI form)] [ZI 1] 284 σ
    exact zr_zret (pc := 16) hV dX1_worksInPlace_16 rfl rfl (by omega) ⟨rfl, _, rfl, ⟨by decide, by decide⟩, (by omega)⟩
  · show V 5 [some (ZI form)] [] 284 σ
    refine zr_iload_n (pc := 5) hV dX1_worksInPlace_5 rfl rfl ?_
    refine zr_bipush (pc := 6) hV 6 dX1_worksInPlace_6 (by decide) ?_
    refine zr_icmp_ne (pc := 8) hV 15 dX1_worksInPlace_8 (by decide) (by omega) ⟨by decide, by decide⟩ (fun c2 => ?_) (fun c2 => ?_)
    · show V 15 [some (ZI form)] [] 284 σ
      refine zr_iconst (pc := 15) hV 0 dX1_worksInPlace_15 rfl ?_
      show V 16 [some (ZI form)] [ZI 0] 284 σ
      exact zr_zret (pc := 16) hV dX1_worksInPlace_16 rfl rfl (by omega) ⟨rfl, _, rfl, ⟨by decide, by decide⟩, (by omega)⟩
    · show V 11 [some (ZI form)] [] 284 σ
      refine zr_iconst (pc := 11) hV 1 dX1_worksInPlace_11 rfl ?_
      refine zr_goto (pc := 12) hV 16 dX1_worksInPlace_12 (by decide) ?_
      show V 16 [some (ZI form)] [ZI 1] 284 σ
      exact zr_zret (pc := 16) hV dX1_worksInPlace_16 rfl rfl (by omega) ⟨rfl, _, rfl, ⟨by decide, by decide⟩, (by omega)⟩
set_option maxHeartbeats 800000 in
theorem c_X7_isVariable_2 {σ : zq_S} (hσ : zc_T σ) (this : Int) (kthis : zc_kd this = 256) (node : Int) (q0 : 0 ≤ node ∧ node ≤ 38) : zq_C zc_w yX7_isVariable cX7_isVariable 2 (some .boolean) 0 0 284 284 [ZR this, ZI node] σ (zq_pp σ (fun r => (0 ≤ r ∧ r ≤ 1) ∧ (r = 1 ↔ σ (this + 1) node = 1))) := by
  refine zq_C_of (by decide) (Nat.le_refl _) (Nat.le_of_ble_eq_true rfl) [some (ZR this), some (ZI node)] rfl (fun V hV => ?_)
  have pothis := zc_pos kthis rfl
  show V 0 [some (ZR this), some (ZI node)] [] 284 σ
  refine zr_aload_n (pc := 0) hV dX7_isVariable_0 rfl rfl ?_
  refine zr_getR (pc := 1) hV 0 (this + 1) dX7_isVariable_1 fX7_9 rfl rfl (zc_k256 kthis) (zc_pos kthis rfl) (zc_g256_0 hσ kthis) (zc_pos (zc_p256_1 kthis) rfl).1 ?_
  refine zr_iload_n (pc := 4) hV dX7_isVariable_4 rfl rfl ?_
  refine zr_iald (pc := 5) hV dX7_isVariable_5 (zc_k257 (zc_p256_1 kthis)) (zc_pos (zc_p256_1 kthis) rfl) rfl (by omega) ?_
  have t1 := zc_ga257 hσ (zc_p256_1 kthis) node
  refine zr_iconst (pc := 6) hV 1 dX7_isVariable_6 rfl ?_
  refine zr_icmp_ne (pc := 7) hV 14 dX7_isVariable_7 (by decide) (by omega) ⟨by decide, by decide⟩ (fun c2 => ?_) (fun c2 => ?_)
  · show V 14 [some (ZR this), some (ZI node)] [] 284 σ
    refine zr_iconst (pc := 14) hV 0 dX7_isVariable_14 rfl ?_
    show V 15 [some (ZR this), some (ZI node)] [ZI 0] 284 σ
    exact zr_zret (pc := 15) hV dX7_isVariable_15 rfl rfl (by omega) ⟨rfl, _, rfl, ⟨by decide, by decide⟩, (by omega)⟩
  · show V 10 [some (ZR this), some (ZI node)] [] 284 σ
    refine zr_iconst (pc := 10) hV 1 dX7_isVariable_10 rfl ?_
    refine zr_goto (pc := 11) hV 15 dX7_isVariable_11 (by decide) ?_
    show V 15 [some (ZR this), some (ZI node)] [ZI 1] 284 σ
    exact zr_zret (pc := 15) hV dX7_isVariable_15 rfl rfl (by omega) ⟨rfl, _, rfl, ⟨by decide, by decide⟩, (by omega)⟩
set_option maxHeartbeats 800000 in
theorem c_X7_isLiteral_2 {σ : zq_S} (hσ : zc_T σ) (this : Int) (kthis : zc_kd this = 256) (node : Int) (q0 : 0 ≤ node ∧ node ≤ 38) : zq_C zc_w yX7_isLiteral cX7_isLiteral 2 (some .boolean) 0 0 284 284 [ZR this, ZI node] σ (zq_pp σ (fun r => (0 ≤ r ∧ r ≤ 1) ∧ (r = 1 ↔ σ (this + 1) node = 2))) := by
  refine zq_C_of (by decide) (Nat.le_refl _) (Nat.le_of_ble_eq_true rfl) [some (ZR this), some (ZI node)] rfl (fun V hV => ?_)
  have pothis := zc_pos kthis rfl
  show V 0 [some (ZR this), some (ZI node)] [] 284 σ
  refine zr_aload_n (pc := 0) hV dX7_isLiteral_0 rfl rfl ?_
  refine zr_getR (pc := 1) hV 0 (this + 1) dX7_isLiteral_1 fX7_9 rfl rfl (zc_k256 kthis) (zc_pos kthis rfl) (zc_g256_0 hσ kthis) (zc_pos (zc_p256_1 kthis) rfl).1 ?_
  refine zr_iload_n (pc := 4) hV dX7_isLiteral_4 rfl rfl ?_
  refine zr_iald (pc := 5) hV dX7_isLiteral_5 (zc_k257 (zc_p256_1 kthis)) (zc_pos (zc_p256_1 kthis) rfl) rfl (by omega) ?_
  have t1 := zc_ga257 hσ (zc_p256_1 kthis) node
  refine zr_iconst (pc := 6) hV 2 dX7_isLiteral_6 rfl ?_
  refine zr_icmp_ne (pc := 7) hV 14 dX7_isLiteral_7 (by decide) (by omega) ⟨by decide, by decide⟩ (fun c2 => ?_) (fun c2 => ?_)
  · show V 14 [some (ZR this), some (ZI node)] [] 284 σ
    refine zr_iconst (pc := 14) hV 0 dX7_isLiteral_14 rfl ?_
    show V 15 [some (ZR this), some (ZI node)] [ZI 0] 284 σ
    exact zr_zret (pc := 15) hV dX7_isLiteral_15 rfl rfl (by omega) ⟨rfl, _, rfl, ⟨by decide, by decide⟩, (by omega)⟩
  · show V 10 [some (ZR this), some (ZI node)] [] 284 σ
    refine zr_iconst (pc := 10) hV 1 dX7_isLiteral_10 rfl ?_
    refine zr_goto (pc := 11) hV 15 dX7_isLiteral_11 (by decide) ?_
    show V 15 [some (ZR this), some (ZI node)] [ZI 1] 284 σ
    exact zr_zret (pc := 15) hV dX7_isLiteral_15 rfl rfl (by omega) ⟨rfl, _, rfl, ⟨by decide, by decide⟩, (by omega)⟩
set_option maxHeartbeats 800000 in
theorem c_X1_priceBy_2 {σ : zq_S} (hσ : zc_T σ) (order : Int) (korder : zc_kd order = 4) (node : Int) (moveTicks : Int) (q0 : 0 ≤ node ∧ node ≤ 38) (q1 : 0 ≤ moveTicks ∧ moveTicks ≤ 1000000) (q2 : 0 ≤ σ 272 (σ (σ 255 1 + 3) node) ∧ σ 272 (σ (σ 255 1 + 3) node) ≤ 1000000) (q3 : 0 ≤ σ 272 (σ (σ 255 1 + 4) node) ∧ σ 272 (σ (σ 255 1 + 4) node) ≤ 1000000) (q4 : 0 ≤ σ order 11 ∧ σ order 11 ≤ 1000) (q5 : zt_bc (σ (order + 1) 3) ≤ 12) : zq_C zc_w yX1_priceBy cX1_priceBy 7 (some .int) 3 62 284 284 [ZR 255, ZR order, ZI node, ZI moveTicks] σ (zq_pp σ (fun r => (0 ≤ r ∧ r ≤ 1000000) ∧ zq_hid (r = zp_kc (σ order 14) (σ order 11) (σ 272 (σ (σ 255 1 + 3) node)) (σ 272 (σ (σ 255 1 + 4) node)) (σ (σ 255 1 + 1) (σ (σ 255 1 + 3) node)) (σ (σ 255 1 + 1) (σ (σ 255 1 + 4) node)) (σ (σ 255 1 + 2) (σ (σ 255 1 + 4) node)) (zx_p2 (zt_bc (σ (order + 1) 3))) moveTicks))) := by
  refine zq_C_of (by decide) (Nat.le_refl _) (Nat.le_of_ble_eq_true rfl) [some (ZR 255), some (ZR order), some (ZI node), some (ZI moveTicks), none, none, none] rfl (fun V hV => ?_)
  have poorder := zc_pos korder rfl
  obtain ⟨told, etold⟩ : ∃ o, σ 255 1 = o := ⟨_, rfl⟩
  have ktold : zc_kd told = 256 := etold ▸ zc_g255_1 hσ zc_s255
  have potold := zc_pos ktold rfl
  rw [etold] at q2 q3
  show V 0 [some (ZR 255), some (ZR order), some (ZI node), some (ZI moveTicks), none, none, none] [] 284 σ
  refine zr_aload_n (pc := 0) hV dX1_priceBy_0 rfl rfl ?_
  refine zr_getR (pc := 1) hV 1 told dX1_priceBy_1 fX1_12 rfl rfl (zc_k255 zc_s255) (zc_pos zc_s255 rfl) (by omega) (zc_pos ktold rfl).1 ?_
  refine zr_getR (pc := 4) hV 2 (told + 3) dX1_priceBy_4 fX1_122 rfl rfl (zc_k256 ktold) (zc_pos ktold rfl) (zc_g256_2 hσ ktold) (zc_pos (zc_p256_3 ktold) rfl).1 ?_
  refine zr_iload_n (pc := 7) hV dX1_priceBy_7 rfl rfl ?_
  refine zr_iald (pc := 8) hV dX1_priceBy_8 (zc_k259 (zc_p256_3 ktold)) (zc_pos (zc_p256_3 ktold) rfl) rfl (by omega) ?_
  have t1 := zc_ga259 hσ (zc_p256_3 ktold) node
  refine zr_istore (pc := 9) hV [some (ZR 255), some (ZR order), some (ZI node), some (ZI moveTicks), some (ZI (σ (told + 3) node)), none, none] dX1_priceBy_9 (by decide) rfl rfl ?_
  refine zr_aload_n (pc := 11) hV dX1_priceBy_11 rfl rfl ?_
  refine zr_getR (pc := 12) hV 1 told dX1_priceBy_12 fX1_12 rfl rfl (zc_k255 zc_s255) (zc_pos zc_s255 rfl) (by omega) (zc_pos ktold rfl).1 ?_
  refine zr_getR (pc := 15) hV 3 (told + 4) dX1_priceBy_15 fX1_125 rfl rfl (zc_k256 ktold) (zc_pos ktold rfl) (zc_g256_3 hσ ktold) (zc_pos (zc_p256_4 ktold) rfl).1 ?_
  refine zr_iload_n (pc := 18) hV dX1_priceBy_18 rfl rfl ?_
  refine zr_iald (pc := 19) hV dX1_priceBy_19 (zc_k260 (zc_p256_4 ktold)) (zc_pos (zc_p256_4 ktold) rfl) rfl (by omega) ?_
  have t2 := zc_ga260 hσ (zc_p256_4 ktold) node
  refine zr_istore (pc := 20) hV [some (ZR 255), some (ZR order), some (ZI node), some (ZI moveTicks), some (ZI (σ (told + 3) node)), some (ZI (σ (told + 4) node)), none] dX1_priceBy_20 (by decide) rfl rfl ?_
  refine zr_aload_n (pc := 22) hV dX1_priceBy_22 rfl rfl ?_
  refine zr_getI (pc := 23) hV 11 dX1_priceBy_23 fX1_91 rfl rfl (zc_k4 korder) (zc_pos korder rfl) ?_
  have t3 := zc_g4_11 hσ korder
  refine zr_aload_n (pc := 26) hV dX1_priceBy_26 rfl rfl ?_
  refine zr_getR (pc := 27) hV 5 272 dX1_priceBy_27 fX1_21 rfl rfl (zc_k255 zc_s255) (zc_pos zc_s255 rfl) (zc_g255_5 hσ zc_s255) (by decide) ?_
  refine zr_iload (pc := 30) hV dX1_priceBy_30 rfl ?_
  refine zr_iald (pc := 32) hV dX1_priceBy_32 (zc_k272 zc_s272) (zc_pos zc_s272 rfl) rfl (by omega) ?_
  have t4 := zc_ga272 hσ zc_s272 (σ (told + 3) node)
  refine zr_iadd (pc := 33) hV dX1_priceBy_33 ?_
  refine zr_istore (pc := 34) hV [some (ZR 255), some (ZR order), some (ZI node), some (ZI moveTicks), some (ZI (σ (told + 3) node)), some (ZI (σ (told + 4) node)), some (ZI ((σ order 11) + (σ 272 (σ (told + 3) node))))] dX1_priceBy_34 (by decide) rfl rfl ?_
  refine zr_aload_n (pc := 36) hV dX1_priceBy_36 rfl rfl ?_
  refine zr_getI (pc := 37) hV 14 dX1_priceBy_37 fX1_105 rfl rfl (zc_k4 korder) (zc_pos korder rfl) ?_
  have t5 := zc_g4_14 hσ korder
  have t6 := zc_g4_14 hσ korder
  refine zr_callSp (pc := 40) hV [ZI (σ order 14)] (st := []) (c_X1_takesRegister_2 (σ := σ) (σ order 14) (by omega)) dX1_priceBy_40 mX1_128 (by decide) (Nat.le_of_ble_eq_true rfl) (Nat.le_refl _) (fun r40 hr40 pr40 => ?_)
  have t7 := zc_g4_14 hσ korder
  refine zr_if_eq (pc := 43) hV 61 dX1_priceBy_43 (by decide) (by omega) (fun c8 => ?_) (fun c8 => ?_)
  · show V 61 [some (ZR 255), some (ZR order), some (ZI node), some (ZI moveTicks), some (ZI (σ (told + 3) node)), some (ZI (σ (told + 4) node)), some (ZI ((σ order 11) + (σ 272 (σ (told + 3) node))))] [] 284 σ
    refine zr_aload_n (pc := 61) hV dX1_priceBy_61 rfl rfl ?_
    refine zr_getR (pc := 62) hV 1 told dX1_priceBy_62 fX1_12 rfl rfl (zc_k255 zc_s255) (zc_pos zc_s255 rfl) (by omega) (zc_pos ktold rfl).1 ?_
    refine zr_iload (pc := 65) hV dX1_priceBy_65 rfl ?_
    refine zr_callVp (pc := 67) hV [ZI (σ (told + 4) node)] (st := []) (c_X7_isLiteral_2 (σ := σ) hσ told ktold (σ (told + 4) node) (by omega)) dX1_priceBy_67 mX1_70 (zc_k256 ktold) (zc_pos ktold rfl) (by decide) (Nat.le_of_ble_eq_true rfl) (Nat.le_refl _) (fun r67 hr67 pr67 => ?_)
    refine zr_if_eq (pc := 70) hV 90 dX1_priceBy_70 (by decide) (by omega) (fun c9 => ?_) (fun c9 => ?_)
    · show V 90 [some (ZR 255), some (ZR order), some (ZI node), some (ZI moveTicks), some (ZI (σ (told + 3) node)), some (ZI (σ (told + 4) node)), some (ZI ((σ order 11) + (σ 272 (σ (told + 3) node))))] [] 284 σ
      refine zr_ldc (pc := 90) (v := 1000000) hV 1000000 dX1_priceBy_90 kX1_86 (by decide) ?_
      exact zr_iret (pc := 92) hV dX1_priceBy_92 rfl rfl ⟨rfl, _, rfl, ⟨by decide, by decide⟩, ⟨by omega, (by unfold zq_hid; rw [etold]; unfold zp_kc zp_mn; repeat' split; all_goals omega)⟩⟩
    · show V 73 [some (ZR 255), some (ZR order), some (ZI node), some (ZI moveTicks), some (ZI (σ (told + 3) node)), some (ZI (σ (told + 4) node)), some (ZI ((σ order 11) + (σ 272 (σ (told + 3) node))))] [] 284 σ
      refine zr_aload_n (pc := 73) hV dX1_priceBy_73 rfl rfl ?_
      refine zr_aload_n (pc := 74) hV dX1_priceBy_74 rfl rfl ?_
      refine zr_getR (pc := 75) hV 1 told dX1_priceBy_75 fX1_12 rfl rfl (zc_k255 zc_s255) (zc_pos zc_s255 rfl) (by omega) (zc_pos ktold rfl).1 ?_
      refine zr_getR (pc := 78) hV 1 (told + 2) dX1_priceBy_78 fX1_73 rfl rfl (zc_k256 ktold) (zc_pos ktold rfl) (zc_g256_1 hσ ktold) (zc_pos (zc_p256_2 ktold) rfl).1 ?_
      refine zr_iload (pc := 81) hV dX1_priceBy_81 rfl ?_
      refine zr_iald (pc := 83) hV dX1_priceBy_83 (zc_k258 (zc_p256_2 ktold)) (zc_pos (zc_p256_2 ktold) rfl) rfl (by omega) ?_
      have t10 := zc_ga258 hσ (zc_p256_2 ktold) (σ (told + 4) node)
      refine zr_callSp (pc := 84) hV [ZR order, ZI (σ (told + 2) (σ (told + 4) node))] (st := []) (c_X1_hasRoomFor_2 (σ := σ) hσ order korder (σ (told + 2) (σ (told + 4) node)) (by omega) q5) dX1_priceBy_84 mX1_108 (by decide) (Nat.le_of_ble_eq_true rfl) (Nat.le_refl _) (fun r84 hr84 pr84 => ?_)
      refine zr_if_ne (pc := 87) hV 93 dX1_priceBy_87 (by decide) (by omega) (fun c11 => ?_) (fun c11 => ?_)
      · show V 93 [some (ZR 255), some (ZR order), some (ZI node), some (ZI moveTicks), some (ZI (σ (told + 3) node)), some (ZI (σ (told + 4) node)), some (ZI ((σ order 11) + (σ 272 (σ (told + 3) node))))] [] 284 σ
        refine zr_aload_n (pc := 93) hV dX1_priceBy_93 rfl rfl ?_
        refine zr_getI (pc := 94) hV 14 dX1_priceBy_94 fX1_105 rfl rfl (zc_k4 korder) (zc_pos korder rfl) ?_
        have t12 := zc_g4_14 hσ korder
        have t13 := zc_g4_14 hσ korder
        refine zr_callSp (pc := 97) hV [ZI (σ order 14)] (st := []) (c_X1_worksInPlace_2 (σ := σ) (σ order 14) (by omega)) dX1_priceBy_97 mX1_131 (by decide) (Nat.le_of_ble_eq_true rfl) (Nat.le_refl _) (fun r97 hr97 pr97 => ?_)
        have t14 := zc_g4_14 hσ korder
        refine zr_if_eq (pc := 100) hV 121 dX1_priceBy_100 (by decide) (by omega) (fun c15 => ?_) (fun c15 => ?_)
        · show V 121 [some (ZR 255), some (ZR order), some (ZI node), some (ZI moveTicks), some (ZI (σ (told + 3) node)), some (ZI (σ (told + 4) node)), some (ZI ((σ order 11) + (σ 272 (σ (told + 3) node))))] [] 284 σ
          refine zr_iload (pc := 121) hV dX1_priceBy_121 rfl ?_
          refine zr_ldc (pc := 123) (v := 1000000) hV 1000000 dX1_priceBy_123 kX1_86 (by decide) ?_
          refine zr_min (pc := 125) hV (st := []) dX1_priceBy_125 lX1_134 (by omega) ⟨by decide, by decide⟩ (Nat.le_of_ble_eq_true rfl) rfl rfl (fun r125 pr125 qr125 => ?_)
          exact zr_iret (pc := 128) hV dX1_priceBy_128 rfl rfl ⟨rfl, _, rfl, (by omega), ⟨by omega, (by unfold zq_hid; rw [etold]; unfold zp_kc zp_mn; repeat' split; all_goals omega)⟩⟩
        · show V 103 [some (ZR 255), some (ZR order), some (ZI node), some (ZI moveTicks), some (ZI (σ (told + 3) node)), some (ZI (σ (told + 4) node)), some (ZI ((σ order 11) + (σ 272 (σ (told + 3) node))))] [] 284 σ
          refine zr_aload_n (pc := 103) hV dX1_priceBy_103 rfl rfl ?_
          refine zr_getR (pc := 104) hV 1 told dX1_priceBy_104 fX1_12 rfl rfl (zc_k255 zc_s255) (zc_pos zc_s255 rfl) (by omega) (zc_pos ktold rfl).1 ?_
          refine zr_iload (pc := 107) hV dX1_priceBy_107 rfl ?_
          refine zr_callVp (pc := 109) hV [ZI (σ (told + 3) node)] (st := []) (c_X7_isVariable_2 (σ := σ) hσ told ktold (σ (told + 3) node) (by omega)) dX1_priceBy_109 mX1_66 (zc_k256 ktold) (zc_pos ktold rfl) (by decide) (Nat.le_of_ble_eq_true rfl) (Nat.le_refl _) (fun r109 hr109 pr109 => ?_)
          refine zr_if_eq (pc := 112) hV 121 dX1_priceBy_112 (by decide) (by omega) (fun c16 => ?_) (fun c16 => ?_)
          · show V 121 [some (ZR 255), some (ZR order), some (ZI node), some (ZI moveTicks), some (ZI (σ (told + 3) node)), some (ZI (σ (told + 4) node)), some (ZI ((σ order 11) + (σ 272 (σ (told + 3) node))))] [] 284 σ
            refine zr_iload (pc := 121) hV dX1_priceBy_121 rfl ?_
            refine zr_ldc (pc := 123) (v := 1000000) hV 1000000 dX1_priceBy_123 kX1_86 (by decide) ?_
            refine zr_min (pc := 125) hV (st := []) dX1_priceBy_125 lX1_134 (by omega) ⟨by decide, by decide⟩ (Nat.le_of_ble_eq_true rfl) rfl rfl (fun r125 pr125 qr125 => ?_)
            exact zr_iret (pc := 128) hV dX1_priceBy_128 rfl rfl ⟨rfl, _, rfl, (by omega), ⟨by omega, (by unfold zq_hid; rw [etold]; unfold zp_kc zp_mn; repeat' split; all_goals omega)⟩⟩
          · show V 115 [some (ZR 255), some (ZR order), some (ZI node), some (ZI moveTicks), some (ZI (σ (told + 3) node)), some (ZI (σ (told + 4) node)), some (ZI ((σ order 11) + (σ 272 (σ (told + 3) node))))] [] 284 σ
            refine zr_iload (pc := 115) hV dX1_priceBy_115 rfl ?_
            refine zr_iload_n (pc := 117) hV dX1_priceBy_117 rfl rfl ?_
            refine zr_iadd (pc := 118) hV dX1_priceBy_118 ?_
            refine zr_istore (pc := 119) hV [some (ZR 255), some (ZR order), some (ZI node), some (ZI moveTicks), some (ZI (σ (told + 3) node)), some (ZI (σ (told + 4) node)), some (ZI (((σ order 11) + (σ 272 (σ (told + 3) node))) + moveTicks))] dX1_priceBy_119 (by decide) rfl rfl ?_
            show V 121 [some (ZR 255), some (ZR order), some (ZI node), some (ZI moveTicks), some (ZI (σ (told + 3) node)), some (ZI (σ (told + 4) node)), some (ZI (((σ order 11) + (σ 272 (σ (told + 3) node))) + moveTicks))] [] 284 σ
            refine zr_iload (pc := 121) hV dX1_priceBy_121 rfl ?_
            refine zr_ldc (pc := 123) (v := 1000000) hV 1000000 dX1_priceBy_123 kX1_86 (by decide) ?_
            refine zr_min (pc := 125) hV (st := []) dX1_priceBy_125 lX1_134 (by omega) ⟨by decide, by decide⟩ (Nat.le_of_ble_eq_true rfl) rfl rfl (fun r125 pr125 qr125 => ?_)
            exact zr_iret (pc := 128) hV dX1_priceBy_128 rfl rfl ⟨rfl, _, rfl, (by omega), ⟨by omega, (by unfold zq_hid; rw [etold]; unfold zp_kc zp_mn; repeat' split; all_goals omega)⟩⟩
      · show V 90 [some (ZR 255), some (ZR order), some (ZI node), some (ZI moveTicks), some (ZI (σ (told + 3) node)), some (ZI (σ (told + 4) node)), some (ZI ((σ order 11) + (σ 272 (σ (told + 3) node))))] [] 284 σ
        refine zr_ldc (pc := 90) (v := 1000000) hV 1000000 dX1_priceBy_90 kX1_86 (by decide) ?_
        exact zr_iret (pc := 92) hV dX1_priceBy_92 rfl rfl ⟨rfl, _, rfl, ⟨by decide, by decide⟩, ⟨by omega, (by unfold zq_hid; rw [etold]; unfold zp_kc zp_mn; repeat' split; all_goals omega)⟩⟩
  · show V 46 [some (ZR 255), some (ZR order), some (ZI node), some (ZI moveTicks), some (ZI (σ (told + 3) node)), some (ZI (σ (told + 4) node)), some (ZI ((σ order 11) + (σ 272 (σ (told + 3) node))))] [] 284 σ
    refine zr_iload (pc := 46) hV dX1_priceBy_46 rfl ?_
    refine zr_aload_n (pc := 48) hV dX1_priceBy_48 rfl rfl ?_
    refine zr_getR (pc := 49) hV 5 272 dX1_priceBy_49 fX1_21 rfl rfl (zc_k255 zc_s255) (zc_pos zc_s255 rfl) (zc_g255_5 hσ zc_s255) (by decide) ?_
    refine zr_iload (pc := 52) hV dX1_priceBy_52 rfl ?_
    refine zr_iald (pc := 54) hV dX1_priceBy_54 (zc_k272 zc_s272) (zc_pos zc_s272 rfl) rfl (by omega) ?_
    have t17 := zc_ga272 hσ zc_s272 (σ (told + 4) node)
    refine zr_iadd (pc := 55) hV dX1_priceBy_55 ?_
    refine zr_istore (pc := 56) hV [some (ZR 255), some (ZR order), some (ZI node), some (ZI moveTicks), some (ZI (σ (told + 3) node)), some (ZI (σ (told + 4) node)), some (ZI (((σ order 11) + (σ 272 (σ (told + 3) node))) + (σ 272 (σ (told + 4) node))))] dX1_priceBy_56 (by decide) rfl rfl ?_
    refine zr_goto (pc := 58) hV 93 dX1_priceBy_58 (by decide) ?_
    show V 93 [some (ZR 255), some (ZR order), some (ZI node), some (ZI moveTicks), some (ZI (σ (told + 3) node)), some (ZI (σ (told + 4) node)), some (ZI (((σ order 11) + (σ 272 (σ (told + 3) node))) + (σ 272 (σ (told + 4) node))))] [] 284 σ
    refine zr_aload_n (pc := 93) hV dX1_priceBy_93 rfl rfl ?_
    refine zr_getI (pc := 94) hV 14 dX1_priceBy_94 fX1_105 rfl rfl (zc_k4 korder) (zc_pos korder rfl) ?_
    have t18 := zc_g4_14 hσ korder
    have t19 := zc_g4_14 hσ korder
    refine zr_callSp (pc := 97) hV [ZI (σ order 14)] (st := []) (c_X1_worksInPlace_2 (σ := σ) (σ order 14) (by omega)) dX1_priceBy_97 mX1_131 (by decide) (Nat.le_of_ble_eq_true rfl) (Nat.le_refl _) (fun r97 hr97 pr97 => ?_)
    have t20 := zc_g4_14 hσ korder
    refine zr_if_eq (pc := 100) hV 121 dX1_priceBy_100 (by decide) (by omega) (fun c21 => ?_) (fun c21 => ?_)
    · show V 121 [some (ZR 255), some (ZR order), some (ZI node), some (ZI moveTicks), some (ZI (σ (told + 3) node)), some (ZI (σ (told + 4) node)), some (ZI (((σ order 11) + (σ 272 (σ (told + 3) node))) + (σ 272 (σ (told + 4) node))))] [] 284 σ
      refine zr_iload (pc := 121) hV dX1_priceBy_121 rfl ?_
      refine zr_ldc (pc := 123) (v := 1000000) hV 1000000 dX1_priceBy_123 kX1_86 (by decide) ?_
      refine zr_min (pc := 125) hV (st := []) dX1_priceBy_125 lX1_134 (by omega) ⟨by decide, by decide⟩ (Nat.le_of_ble_eq_true rfl) rfl rfl (fun r125 pr125 qr125 => ?_)
      exact zr_iret (pc := 128) hV dX1_priceBy_128 rfl rfl ⟨rfl, _, rfl, (by omega), ⟨by omega, (by unfold zq_hid; rw [etold]; unfold zp_kc zp_mn; repeat' split; all_goals omega)⟩⟩
    · show V 103 [some (ZR 255), some (ZR order), some (ZI node), some (ZI moveTicks), some (ZI (σ (told + 3) node)), some (ZI (σ (told + 4) node)), some (ZI (((σ order 11) + (σ 272 (σ (told + 3) node))) + (σ 272 (σ (told + 4) node))))] [] 284 σ
      refine zr_aload_n (pc := 103) hV dX1_priceBy_103 rfl rfl ?_
      refine zr_getR (pc := 104) hV 1 told dX1_priceBy_104 fX1_12 rfl rfl (zc_k255 zc_s255) (zc_pos zc_s255 rfl) (by omega) (zc_pos ktold rfl).1 ?_
      refine zr_iload (pc := 107) hV dX1_priceBy_107 rfl ?_
      refine zr_callVp (pc := 109) hV [ZI (σ (told + 3) node)] (st := []) (c_X7_isVariable_2 (σ := σ) hσ told ktold (σ (told + 3) node) (by omega)) dX1_priceBy_109 mX1_66 (zc_k256 ktold) (zc_pos ktold rfl) (by decide) (Nat.le_of_ble_eq_true rfl) (Nat.le_refl _) (fun r109 hr109 pr109 => ?_)
      refine zr_if_eq (pc := 112) hV 121 dX1_priceBy_112 (by decide) (by omega) (fun c22 => ?_) (fun c22 => ?_)
      · show V 121 [some (ZR 255), some (ZR order), some (ZI node), some (ZI moveTicks), some (ZI (σ (told + 3) node)), some (ZI (σ (told + 4) node)), some (ZI (((σ order 11) + (σ 272 (σ (told + 3) node))) + (σ 272 (σ (told + 4) node))))] [] 284 σ
        refine zr_iload (pc := 121) hV dX1_priceBy_121 rfl ?_
        refine zr_ldc (pc := 123) (v := 1000000) hV 1000000 dX1_priceBy_123 kX1_86 (by decide) ?_
        refine zr_min (pc := 125) hV (st := []) dX1_priceBy_125 lX1_134 (by omega) ⟨by decide, by decide⟩ (Nat.le_of_ble_eq_true rfl) rfl rfl (fun r125 pr125 qr125 => ?_)
        exact zr_iret (pc := 128) hV dX1_priceBy_128 rfl rfl ⟨rfl, _, rfl, (by omega), ⟨by omega, (by unfold zq_hid; rw [etold]; unfold zp_kc zp_mn; repeat' split; all_goals omega)⟩⟩
      · show V 115 [some (ZR 255), some (ZR order), some (ZI node), some (ZI moveTicks), some (ZI (σ (told + 3) node)), some (ZI (σ (told + 4) node)), some (ZI (((σ order 11) + (σ 272 (σ (told + 3) node))) + (σ 272 (σ (told + 4) node))))] [] 284 σ
        refine zr_iload (pc := 115) hV dX1_priceBy_115 rfl ?_
        refine zr_iload_n (pc := 117) hV dX1_priceBy_117 rfl rfl ?_
        refine zr_iadd (pc := 118) hV dX1_priceBy_118 ?_
        refine zr_istore (pc := 119) hV [some (ZR 255), some (ZR order), some (ZI node), some (ZI moveTicks), some (ZI (σ (told + 3) node)), some (ZI (σ (told + 4) node)), some (ZI ((((σ order 11) + (σ 272 (σ (told + 3) node))) + (σ 272 (σ (told + 4) node))) + moveTicks))] dX1_priceBy_119 (by decide) rfl rfl ?_
        show V 121 [some (ZR 255), some (ZR order), some (ZI node), some (ZI moveTicks), some (ZI (σ (told + 3) node)), some (ZI (σ (told + 4) node)), some (ZI ((((σ order 11) + (σ 272 (σ (told + 3) node))) + (σ 272 (σ (told + 4) node))) + moveTicks))] [] 284 σ
        refine zr_iload (pc := 121) hV dX1_priceBy_121 rfl ?_
        refine zr_ldc (pc := 123) (v := 1000000) hV 1000000 dX1_priceBy_123 kX1_86 (by decide) ?_
        refine zr_min (pc := 125) hV (st := []) dX1_priceBy_125 lX1_134 (by omega) ⟨by decide, by decide⟩ (Nat.le_of_ble_eq_true rfl) rfl rfl (fun r125 pr125 qr125 => ?_)
        exact zr_iret (pc := 128) hV dX1_priceBy_128 rfl rfl ⟨rfl, _, rfl, (by omega), ⟨by omega, (by unfold zq_hid; rw [etold]; unfold zp_kc zp_mn; repeat' split; all_goals omega)⟩⟩
set_option maxHeartbeats 800000 in
theorem c_X1_findSignPrice_2 {σ : zq_S} (hσ : zc_T σ) (node : Int) (moveTicks : Int) (q0 : 0 ≤ node ∧ node ≤ 38) (q1 : 0 ≤ moveTicks ∧ moveTicks ≤ 1000000) (q2 : zp_P2 σ) (q3 : zq_hid (∀ i, 0 ≤ i → i < node → 0 ≤ σ 272 i ∧ σ 272 i ≤ 1000000)) (q4 : σ (σ 255 1 + 3) node < node ∧ σ (σ 255 1 + 4) node < node) : zq_C zc_w yX1_findSignPrice cX1_findSignPrice 6 (none) 4 88 284 284 [ZR 255, ZI node, ZI moveTicks] σ (zq_pv (fun τ => zc_T τ ∧ zc_Fr [(272, -1), (273, -1)] σ τ ∧ (0 ≤ τ 272 node ∧ τ 272 node ≤ 1000000) ∧ zq_hid ((∀ j, j ≠ node → τ 272 j = σ 272 j ∧ τ 273 j = σ 273 j) ∧ τ 272 node = (zp_f (zp_cs σ (σ 255 1) node moveTicks) (σ 3 3)).1 ∧ τ 273 node = (zp_f (zp_cs σ (σ 255 1) node moveTicks) (σ 3 3)).2))) := by
  refine zq_C_of (by decide) (Nat.le_refl _) (Nat.le_of_ble_eq_true rfl) [some (ZR 255), some (ZI node), some (ZI moveTicks), none, none, none] rfl (fun V hV => ?_)
  have hFσ := zc_Fr_rf [(272, -1), (273, -1)] σ
  obtain ⟨told, etold⟩ : ∃ o, σ 255 1 = o := ⟨_, rfl⟩
  have ktold : zc_kd told = 256 := etold ▸ zc_g255_1 hσ zc_s255
  have potold := zc_pos ktold rfl
  rw [etold] at q4
  have z33 := zc_g3_3 hσ zc_s3
  have sl := zc_ga259 hσ (zc_p256_3 ktold) node
  have sr := zc_ga260 hσ (zc_p256_4 ktold) node
  have pl := q3 (σ (told + 3) node) (by omega) (by omega)
  have pr := q3 (σ (told + 4) node) (by omega) (by omega)
  show V 0 [some (ZR 255), some (ZI node), some (ZI moveTicks), none, none, none] [] 284 σ
  refine zr_aload_n (pc := 0) hV dX1_findSignPrice_0 rfl rfl ?_
  refine zr_getR (pc := 1) hV 5 272 dX1_findSignPrice_1 fX1_21 rfl rfl (zc_k255 zc_s255) (zc_pos zc_s255 rfl) (zc_g255_5 hσ zc_s255) (by decide) ?_
  refine zr_iload_n (pc := 4) hV dX1_findSignPrice_4 rfl rfl ?_
  refine zr_ldc (pc := 5) (v := 1000000) hV 1000000 dX1_findSignPrice_5 kX1_86 (by decide) ?_
  refine zr_iast (pc := 7) hV dX1_findSignPrice_7 (zc_k272 zc_s272) (zc_pos zc_s272 rfl) rfl (by omega) (fun σ7 eσ7 => ?_)
  have hσ7 : zc_T σ7 := zc_ua272 eσ7 hσ zc_s272 (by omega)
  have hFσ7 := zc_Fa eσ7 zc_s272 rfl hFσ
  refine zr_aload_n (pc := 8) hV dX1_findSignPrice_8 rfl rfl ?_
  refine zr_getR (pc := 9) hV 6 273 dX1_findSignPrice_9 fX1_25 rfl rfl (zc_k255 zc_s255) (zc_pos zc_s255 rfl) (zc_g255_6 hσ7 zc_s255) (by decide) ?_
  refine zr_iload_n (pc := 12) hV dX1_findSignPrice_12 rfl rfl ?_
  refine zr_iconst (pc := 13) hV (-1) dX1_findSignPrice_13 rfl ?_
  refine zr_iast (pc := 14) hV dX1_findSignPrice_14 (zc_k273 zc_s273) (zc_pos zc_s273 rfl) rfl (by omega) (fun σ14 eσ14 => ?_)
  have hσ14 : zc_T σ14 := zc_ua273 eσ14 hσ7 zc_s273 (by omega)
  have hFσ14 := zc_Fa eσ14 zc_s273 rfl hFσ7
  refine zr_iconst (pc := 15) hV 0 dX1_findSignPrice_15 rfl ?_
  refine zr_istore_n (pc := 16) hV [some (ZR 255), some (ZI node), some (ZI moveTicks), some (ZI 0), none, none] dX1_findSignPrice_16 rfl (by decide) rfl rfl ?_
  have L17 : ∀ (fuel : Nat) (x3_17 : Int) (σ_17 : zq_S), (0 ≤ x3_17 ∧ x3_17 ≤ 20) → (zc_T σ_17) → (zc_Fr [(272, -1), (273, -1)] σ σ_17) → (zq_hid (∀ j, j ≠ node → σ_17 272 j = σ 272 j ∧ σ_17 273 j = σ 273 j)) → (zq_hid (σ_17 272 node = (zp_f (zp_cs σ told node moveTicks) x3_17).1 ∧ σ_17 273 node = (zp_f (zp_cs σ told node moveTicks) x3_17).2)) → (0 ≤ σ_17 272 node ∧ σ_17 272 node ≤ 1000000) → (x3_17 ≤ σ 3 3) → 20 - x3_17 < (fuel : Int) → V 17 [some (ZR 255), some (ZI node), some (ZI moveTicks), some (ZI x3_17), none, none] [] 284 σ_17 := by
    intro fuel
    induction fuel with
    | zero =>
      intro x3_17 σ_17 hx3_17 hσ_17 hFσ_17 hi17_0 hi17_1 hi17_2 hi17_3 hm17
      exfalso; omega
    | succ fuel ih =>
      intro x3_17 σ_17 hx3_17 hσ_17 hFσ_17 hi17_0 hi17_1 hi17_2 hi17_3 hm17
      have ih17 := ih
      show V 17 [some (ZR 255), some (ZI node), some (ZI moveTicks), some (ZI x3_17), none, none] [] 284 σ_17
      refine zr_iload_n (pc := 17) hV dX1_findSignPrice_17 rfl rfl ?_
      refine zr_aload_n (pc := 18) hV dX1_findSignPrice_18 rfl rfl ?_
      refine zr_getR (pc := 19) hV 0 3 dX1_findSignPrice_19 fX1_34 rfl rfl (zc_k255 zc_s255) (zc_pos zc_s255 rfl) (zc_g255_0 hσ_17 zc_s255) (by decide) ?_
      refine zr_getI (pc := 22) hV 3 dX1_findSignPrice_22 fX1_99 rfl rfl (zc_k3 zc_s3) (zc_pos zc_s3 rfl) ?_
      have t1 := zc_g3_3 hσ_17 zc_s3
      have t2 : σ_17 3 3 = σ 3 3 := hFσ_17 _ _ (zc_out_at zc_s3 rfl)
      refine zr_icmp_ge (pc := 25) hV 109 dX1_findSignPrice_25 (by decide) (by omega) (by omega) (fun c3 => ?_) (fun c3 => ?_)
      · show V 109 [some (ZR 255), some (ZI node), some (ZI moveTicks), some (ZI x3_17), none, none] [] 284 σ_17
        exact zr_vret (pc := 109) hV dX1_findSignPrice_109 rfl rfl ⟨rfl, hσ_17, hFσ_17, (by omega), (show (∀ j, j ≠ node → σ_17 272 j = σ 272 j ∧ σ_17 273 j = σ 273 j) ∧ σ_17 272 node = (zp_f (zp_cs σ (σ 255 1) node moveTicks) (σ 3 3)).1 ∧ σ_17 273 node = (zp_f (zp_cs σ (σ 255 1) node moveTicks) (σ 3 3)).2 from ⟨hi17_0, by rw [etold, show σ 3 3 = x3_17 by omega]; exact hi17_1.1, by rw [etold, show σ 3 3 = x3_17 by omega]; exact hi17_1.2⟩)⟩
      · show V 28 [some (ZR 255), some (ZI node), some (ZI moveTicks), some (ZI x3_17), none, none] [] 284 σ_17
        refine zr_aload_n (pc := 28) hV dX1_findSignPrice_28 rfl rfl ?_
        refine zr_getR (pc := 29) hV 0 3 dX1_findSignPrice_29 fX1_34 rfl rfl (zc_k255 zc_s255) (zc_pos zc_s255 rfl) (zc_g255_0 hσ_17 zc_s255) (by decide) ?_
        refine zr_getR (pc := 32) hV 6 10 dX1_findSignPrice_32 fX1_101 rfl rfl (zc_k3 zc_s3) (zc_pos zc_s3 rfl) (zc_g3_6 hσ_17 zc_s3) (by decide) ?_
        refine zr_iload_n (pc := 35) hV dX1_findSignPrice_35 rfl rfl ?_
        have ga36 : zc_kd (σ_17 10 x3_17) = 4 := zc_ga10 hσ_17 zc_s10 x3_17 (by omega) (by omega)
        refine zr_aald (pc := 36) hV dX1_findSignPrice_36 (zc_k10 zc_s10) (Or.inl rfl) (zc_pos zc_s10 rfl) rfl (by omega) (zc_pos ga36 rfl).1 ?_
        obtain ⟨o36, eo36⟩ : ∃ o, σ_17 10 x3_17 = o := ⟨_, rfl⟩
        rw [eo36] at ga36 ⊢
        have ko36 := ga36
        have po36 := zc_pos ko36 rfl
        show V 37 [some (ZR 255), some (ZI node), some (ZI moveTicks), some (ZI x3_17), none, none] [ZR o36] 284 σ_17
        refine zr_astore (pc := 37) hV [some (ZR 255), some (ZI node), some (ZI moveTicks), some (ZI x3_17), some (ZR o36), none] dX1_findSignPrice_37 (by decide) rfl rfl ?_
        have e36 : σ 10 x3_17 = o36 := by rw [← hFσ_17 10 x3_17 (zc_out_ar zc_s10 rfl)]; exact eo36
        have tk := q2 x3_17 (by omega) (by omega)
        rw [e36] at tk
        obtain ⟨tk1, tk2, tk3⟩ := tk
        have zcn : zq_hid (¬ (3 ≤ σ o36 14 ∧ σ (o36 + 4) 0 = σ (told + 1) node) → zp_cs σ told node moveTicks x3_17 = 1000000) := fun h => by unfold zp_cs; rw [e36, if_neg h]
        have zcy : zq_hid (3 ≤ σ o36 14 ∧ σ (o36 + 4) 0 = σ (told + 1) node → zp_cs σ told node moveTicks x3_17 = zp_kc (σ o36 14) (σ o36 11) (σ 272 (σ (told + 3) node)) (σ 272 (σ (told + 4) node)) (σ (told + 1) (σ (told + 3) node)) (σ (told + 1) (σ (told + 4) node)) (σ (told + 2) (σ (told + 4) node)) (zx_p2 (zt_bc (σ (o36 + 1) 3))) moveTicks) := fun h => by unfold zp_cs; rw [e36, if_pos h]
        refine zr_aload (pc := 39) hV dX1_findSignPrice_39 rfl ?_
        refine zr_getI (pc := 41) hV 14 dX1_findSignPrice_41 fX1_105 rfl rfl (zc_k4 ko36) (zc_pos ko36 rfl) ?_
        have t4 := zc_g4_14 hσ_17 ko36
        have t5 : σ_17 o36 14 = σ o36 14 := hFσ_17 _ _ (zc_out_at ko36 rfl)
        refine zr_iconst (pc := 44) hV 3 dX1_findSignPrice_44 rfl ?_
        refine zr_icmp_lt (pc := 45) hV 103 dX1_findSignPrice_45 (by decide) (by omega) ⟨by decide, by decide⟩ (fun c6 => ?_) (fun c6 => ?_)
        · show V 103 [some (ZR 255), some (ZI node), some (ZI moveTicks), some (ZI x3_17), some (ZR o36), none] [] 284 σ_17
          refine zr_iinc (pc := 103) hV [some (ZR 255), some (ZI node), some (ZI moveTicks), some (ZI (x3_17 + 1)), some (ZR o36), none] (x3_17 + 1) dX1_findSignPrice_103 rfl rfl (by decide) rfl rfl ?_
          refine zr_goto (pc := 106) hV 17 dX1_findSignPrice_106 (by decide) ?_
          refine zr_sub (pc := 17) hV [some (ZR 255), some (ZI node), some (ZI moveTicks), some (ZI (x3_17 + 1)), none, none] (⟨rfl, rfl, rfl, rfl, trivial⟩) ?_
          exact ih17 (x3_17 + 1) σ_17 (by omega) hσ_17 hFσ_17 hi17_0 (by have z1 : ¬ zp_cs σ told node moveTicks x3_17 < (zp_f (zp_cs σ told node moveTicks) x3_17).1 := (by rw [← hi17_1.1]; first | (rw [zcn (by omega)]; omega) | (rw [zcy (by omega), ← zr]; omega)); rw [zp_f_n (by omega) z1]; exact hi17_1) (by omega) (by omega) (by omega)
        · show V 48 [some (ZR 255), some (ZI node), some (ZI moveTicks), some (ZI x3_17), some (ZR o36), none] [] 284 σ_17
          refine zr_aload (pc := 48) hV dX1_findSignPrice_48 rfl ?_
          refine zr_getR (pc := 50) hV 9 (o36 + 4) dX1_findSignPrice_50 fX1_112 rfl rfl (zc_k4 ko36) (zc_pos ko36 rfl) (zc_g4_9 hσ_17 ko36) (zc_pos (zc_p4_4 ko36) rfl).1 ?_
          refine zr_iconst (pc := 53) hV 0 dX1_findSignPrice_53 rfl ?_
          refine zr_iald (pc := 54) hV dX1_findSignPrice_54 (zc_k8 (zc_p4_4 ko36)) (zc_pos (zc_p4_4 ko36) rfl) rfl (by omega) ?_
          have t7 := zc_ga8 hσ_17 (zc_p4_4 ko36) 0
          have t8 : σ_17 (o36 + 4) 0 = σ (o36 + 4) 0 := hFσ_17 _ _ (zc_out_ar (zc_p4_4 ko36) rfl)
          refine zr_aload_n (pc := 55) hV dX1_findSignPrice_55 rfl rfl ?_
          have t9 : σ_17 255 1 = σ 255 1 := hFσ_17 _ _ (zc_out_at zc_s255 rfl)
          refine zr_getR (pc := 56) hV 1 told dX1_findSignPrice_56 fX1_12 rfl rfl (zc_k255 zc_s255) (zc_pos zc_s255 rfl) (by omega) (zc_pos ktold rfl).1 ?_
          refine zr_getR (pc := 59) hV 0 (told + 1) dX1_findSignPrice_59 fX1_115 rfl rfl (zc_k256 ktold) (zc_pos ktold rfl) (zc_g256_0 hσ_17 ktold) (zc_pos (zc_p256_1 ktold) rfl).1 ?_
          refine zr_iload_n (pc := 62) hV dX1_findSignPrice_62 rfl rfl ?_
          refine zr_iald (pc := 63) hV dX1_findSignPrice_63 (zc_k257 (zc_p256_1 ktold)) (zc_pos (zc_p256_1 ktold) rfl) rfl (by omega) ?_
          have t10 := zc_ga257 hσ_17 (zc_p256_1 ktold) node
          have t11 : σ_17 (told + 1) node = σ (told + 1) node := hFσ_17 _ _ (zc_out_ar (zc_p256_1 ktold) rfl)
          refine zr_icmp_ne (pc := 64) hV 103 dX1_findSignPrice_64 (by decide) (by omega) (by omega) (fun c12 => ?_) (fun c12 => ?_)
          · show V 103 [some (ZR 255), some (ZI node), some (ZI moveTicks), some (ZI x3_17), some (ZR o36), none] [] 284 σ_17
            refine zr_iinc (pc := 103) hV [some (ZR 255), some (ZI node), some (ZI moveTicks), some (ZI (x3_17 + 1)), some (ZR o36), none] (x3_17 + 1) dX1_findSignPrice_103 rfl rfl (by decide) rfl rfl ?_
            refine zr_goto (pc := 106) hV 17 dX1_findSignPrice_106 (by decide) ?_
            refine zr_sub (pc := 17) hV [some (ZR 255), some (ZI node), some (ZI moveTicks), some (ZI (x3_17 + 1)), none, none] (⟨rfl, rfl, rfl, rfl, trivial⟩) ?_
            exact ih17 (x3_17 + 1) σ_17 (by omega) hσ_17 hFσ_17 hi17_0 (by have z1 : ¬ zp_cs σ told node moveTicks x3_17 < (zp_f (zp_cs σ told node moveTicks) x3_17).1 := (by rw [← hi17_1.1]; first | (rw [zcn (by omega)]; omega) | (rw [zcy (by omega), ← zr]; omega)); rw [zp_f_n (by omega) z1]; exact hi17_1) (by omega) (by omega) (by omega)
          · show V 67 [some (ZR 255), some (ZI node), some (ZI moveTicks), some (ZI x3_17), some (ZR o36), none] [] 284 σ_17
            refine zr_aload_n (pc := 67) hV dX1_findSignPrice_67 rfl rfl ?_
            refine zr_aload (pc := 68) hV dX1_findSignPrice_68 rfl ?_
            refine zr_iload_n (pc := 70) hV dX1_findSignPrice_70 rfl rfl ?_
            refine zr_iload_n (pc := 71) hV dX1_findSignPrice_71 rfl rfl ?_
            have t13 := zc_g4_11 hσ_17 ko36
            have t14 : σ_17 o36 11 = σ o36 11 := hFσ_17 _ _ (zc_out_at ko36 rfl)
            refine zr_callVp (pc := 72) hV [ZR o36, ZI node, ZI moveTicks] (st := []) (c_X1_priceBy_2 (σ := σ_17) hσ_17 o36 ko36 node moveTicks (by omega) (by omega) (by rw [hFσ_17 255 1 (zc_out_at zc_s255 rfl), etold, hFσ_17 (told + 3) node (zc_out_ar (zc_p256_3 ktold) rfl), (hi17_0 (σ (told + 3) node) (by omega)).1]; exact pl) (by rw [hFσ_17 255 1 (zc_out_at zc_s255 rfl), etold, hFσ_17 (told + 4) node (zc_out_ar (zc_p256_4 ktold) rfl), (hi17_0 (σ (told + 4) node) (by omega)).1]; exact pr) (by rw [hFσ_17 o36 11 (zc_out_at ko36 rfl)]; exact ⟨tk1, tk2⟩) (by rw [hFσ_17 (o36 + 1) 3 (zc_out_ar (zc_p4_1 ko36) rfl)]; exact tk3)) dX1_findSignPrice_72 mX1_118 (zc_k255 zc_s255) (zc_pos zc_s255 rfl) (by decide) (Nat.le_of_ble_eq_true rfl) (Nat.le_refl _) (fun r72 hr72 pr72 => ?_)
            have t15 := zc_g4_11 hσ_17 ko36
            have t16 : σ_17 o36 11 = σ o36 11 := hFσ_17 _ _ (zc_out_at ko36 rfl)
            have t17 := zc_g4_14 hσ_17 ko36
            have t18 : σ_17 o36 14 = σ o36 14 := hFσ_17 _ _ (zc_out_at ko36 rfl)
            have zr : r72 = zp_kc (σ o36 14) (σ o36 11) (σ 272 (σ (told + 3) node)) (σ 272 (σ (told + 4) node)) (σ (told + 1) (σ (told + 3) node)) (σ (told + 1) (σ (told + 4) node)) (σ (told + 2) (σ (told + 4) node)) (zx_p2 (zt_bc (σ (o36 + 1) 3))) moveTicks := by have z := pr72.2; unfold zq_hid at z; rw [hFσ_17 255 1 (zc_out_at zc_s255 rfl), etold, hFσ_17 (told + 3) node (zc_out_ar (zc_p256_3 ktold) rfl), hFσ_17 (told + 4) node (zc_out_ar (zc_p256_4 ktold) rfl), (hi17_0 (σ (told + 3) node) (by omega)).1, (hi17_0 (σ (told + 4) node) (by omega)).1, hFσ_17 o36 14 (zc_out_at ko36 rfl), hFσ_17 o36 11 (zc_out_at ko36 rfl), hFσ_17 (told + 1) (σ (told + 3) node) (zc_out_ar (zc_p256_1 ktold) rfl), hFσ_17 (told + 1) (σ (told + 4) node) (zc_out_ar (zc_p256_1 ktold) rfl), hFσ_17 (told + 2) (σ (told + 4) node) (zc_out_ar (zc_p256_2 ktold) rfl), hFσ_17 (o36 + 1) 3 (zc_out_ar (zc_p4_1 ko36) rfl)] at z; exact z
            refine zr_istore (pc := 75) hV [some (ZR 255), some (ZI node), some (ZI moveTicks), some (ZI x3_17), some (ZR o36), some (ZI r72)] dX1_findSignPrice_75 (by decide) rfl rfl ?_
            refine zr_iload (pc := 77) hV dX1_findSignPrice_77 rfl ?_
            refine zr_aload_n (pc := 79) hV dX1_findSignPrice_79 rfl rfl ?_
            refine zr_getR (pc := 80) hV 5 272 dX1_findSignPrice_80 fX1_21 rfl rfl (zc_k255 zc_s255) (zc_pos zc_s255 rfl) (zc_g255_5 hσ_17 zc_s255) (by decide) ?_
            refine zr_iload_n (pc := 83) hV dX1_findSignPrice_83 rfl rfl ?_
            refine zr_iald (pc := 84) hV dX1_findSignPrice_84 (zc_k272 zc_s272) (zc_pos zc_s272 rfl) rfl (by omega) ?_
            have t19 := zc_ga272 hσ_17 zc_s272 node
            refine zr_icmp_ge (pc := 85) hV 103 dX1_findSignPrice_85 (by decide) (by omega) (by omega) (fun c20 => ?_) (fun c20 => ?_)
            · show V 103 [some (ZR 255), some (ZI node), some (ZI moveTicks), some (ZI x3_17), some (ZR o36), some (ZI r72)] [] 284 σ_17
              refine zr_iinc (pc := 103) hV [some (ZR 255), some (ZI node), some (ZI moveTicks), some (ZI (x3_17 + 1)), some (ZR o36), some (ZI r72)] (x3_17 + 1) dX1_findSignPrice_103 rfl rfl (by decide) rfl rfl ?_
              refine zr_goto (pc := 106) hV 17 dX1_findSignPrice_106 (by decide) ?_
              refine zr_sub (pc := 17) hV [some (ZR 255), some (ZI node), some (ZI moveTicks), some (ZI (x3_17 + 1)), none, none] (⟨rfl, rfl, rfl, rfl, trivial⟩) ?_
              exact ih17 (x3_17 + 1) σ_17 (by omega) hσ_17 hFσ_17 hi17_0 (by have z1 : ¬ zp_cs σ told node moveTicks x3_17 < (zp_f (zp_cs σ told node moveTicks) x3_17).1 := (by rw [← hi17_1.1]; first | (rw [zcn (by omega)]; omega) | (rw [zcy (by omega), ← zr]; omega)); rw [zp_f_n (by omega) z1]; exact hi17_1) (by omega) (by omega) (by omega)
            · show V 88 [some (ZR 255), some (ZI node), some (ZI moveTicks), some (ZI x3_17), some (ZR o36), some (ZI r72)] [] 284 σ_17
              refine zr_aload_n (pc := 88) hV dX1_findSignPrice_88 rfl rfl ?_
              refine zr_getR (pc := 89) hV 5 272 dX1_findSignPrice_89 fX1_21 rfl rfl (zc_k255 zc_s255) (zc_pos zc_s255 rfl) (zc_g255_5 hσ_17 zc_s255) (by decide) ?_
              refine zr_iload_n (pc := 92) hV dX1_findSignPrice_92 rfl rfl ?_
              refine zr_iload (pc := 93) hV dX1_findSignPrice_93 rfl ?_
              refine zr_iast (pc := 95) hV dX1_findSignPrice_95 (zc_k272 zc_s272) (zc_pos zc_s272 rfl) rfl (by omega) (fun σ95 eσ95 => ?_)
              have hσ95 : zc_T σ95 := zc_ua272 eσ95 hσ_17 zc_s272 (by omega)
              have hFσ95 := zc_Fa eσ95 zc_s272 rfl hFσ_17
              refine zr_aload_n (pc := 96) hV dX1_findSignPrice_96 rfl rfl ?_
              refine zr_getR (pc := 97) hV 6 273 dX1_findSignPrice_97 fX1_25 rfl rfl (zc_k255 zc_s255) (zc_pos zc_s255 rfl) (zc_g255_6 hσ95 zc_s255) (by decide) ?_
              refine zr_iload_n (pc := 100) hV dX1_findSignPrice_100 rfl rfl ?_
              refine zr_iload_n (pc := 101) hV dX1_findSignPrice_101 rfl rfl ?_
              refine zr_iast (pc := 102) hV dX1_findSignPrice_102 (zc_k273 zc_s273) (zc_pos zc_s273 rfl) rfl (by omega) (fun σ102 eσ102 => ?_)
              have hσ102 : zc_T σ102 := zc_ua273 eσ102 hσ95 zc_s273 (by omega)
              have hFσ102 := zc_Fa eσ102 zc_s273 rfl hFσ95
              show V 103 [some (ZR 255), some (ZI node), some (ZI moveTicks), some (ZI x3_17), some (ZR o36), some (ZI r72)] [] 284 σ102
              refine zr_iinc (pc := 103) hV [some (ZR 255), some (ZI node), some (ZI moveTicks), some (ZI (x3_17 + 1)), some (ZR o36), some (ZI r72)] (x3_17 + 1) dX1_findSignPrice_103 rfl rfl (by decide) rfl rfl ?_
              refine zr_goto (pc := 106) hV 17 dX1_findSignPrice_106 (by decide) ?_
              refine zr_sub (pc := 17) hV [some (ZR 255), some (ZI node), some (ZI moveTicks), some (ZI (x3_17 + 1)), none, none] (⟨rfl, rfl, rfl, rfl, trivial⟩) ?_
              exact ih17 (x3_17 + 1) σ102 (by omega) hσ102 hFσ102 (fun j hj => ⟨by rw [eσ102, zq_up_ne (by omega), eσ95, zq_up_ne (by omega)]; exact (hi17_0 j hj).1, by rw [eσ102, zq_up_ne (by omega), eσ95, zq_up_ne (by omega)]; exact (hi17_0 j hj).2⟩) (by have z := zcy ⟨by omega, by omega⟩; rw [zp_f_y (k := x3_17) (by omega) (by rw [← hi17_1.1, z, ← zr]; omega)]; exact ⟨by rw [eσ102, zq_up_ne (by omega), eσ95, zq_up_same]; show r72 = zp_cs σ told node moveTicks x3_17; rw [z, ← zr], by rw [eσ102, zq_up_same]⟩) (by rw [eσ102, zq_up_ne (by omega), eσ95, zq_up_same]; omega) (by omega) (by omega)
  exact L17 (20 - (0 : Int) + 1 : Int).toNat 0 σ14 (by omega) hσ14 hFσ14 (fun j hj => ⟨by rw [eσ14, zq_up_ne (by omega), eσ7, zq_up_ne (by omega)], by rw [eσ14, zq_up_ne (by omega), eσ7, zq_up_ne (by omega)]⟩) ⟨by rw [eσ14, zq_up_ne (by omega), eσ7, zq_up_same]; rfl, by rw [eσ14, zq_up_same]; rfl⟩ (by rw [eσ14, zq_up_ne (by omega), eσ7, zq_up_same]; omega) (by omega) (by omega)
set_option maxHeartbeats 800000 in
theorem c_X1_priceOfSum_2 {σ : zq_S} (hσ : zc_T σ)  (q0 : zp_P2 σ) (q1 : zp_SD σ (σ 255 1)) (Nσ : zc_N σ) : zq_C zc_w yX1_priceOfSum cX1_priceOfSum 3 (some .int) 5 113 284 284 [ZR 255] σ (zq_pi (fun r τ => zc_T τ ∧ zc_Fr [(272, -1), (273, -1)] σ τ ∧ (True) ∧ zq_hid ((∀ D, zp_W σ D (σ 255 1) → r = if zp_q D < 0 then -4 else zp_q D) ∧ zp_PS σ τ (σ 255 1) (σ (σ 255 1) 5)) ∧ zc_N τ)) := by
  refine zq_C_of (by decide) (Nat.le_refl _) (Nat.le_of_ble_eq_true rfl) [some (ZR 255), none, none] rfl (fun V hV => ?_)
  have hFσ := zc_Fr_rf [(272, -1), (273, -1)] σ
  obtain ⟨told, etold⟩ : ∃ o, σ 255 1 = o := ⟨_, rfl⟩
  have ktold : zc_kd told = 256 := etold ▸ zc_g255_1 hσ zc_s255
  have potold := zc_pos ktold rfl
  have hN := Nσ
  unfold zc_N at hN
  rw [etold] at hN
  have hz3 := zc_g3_3 hσ zc_s3
  rw [etold] at q1
  show V 0 [some (ZR 255), none, none] [] 284 σ
  refine zr_aload_n (pc := 0) hV dX1_priceOfSum_0 rfl rfl ?_
  refine zr_aload_n (pc := 1) hV dX1_priceOfSum_1 rfl rfl ?_
  have t1 := zc_g3_3 hσ zc_s3
  refine zr_callVp (pc := 2) hV [] (st := [ZR 255]) (c_X1_leastMove_2 (σ := σ) hσ (fun o o0 o1 => (q0 o o0 o1).2.1)) dX1_priceOfSum_2 mX1_56 (zc_k255 zc_s255) (zc_pos zc_s255 rfl) (by decide) (Nat.le_of_ble_eq_true rfl) (Nat.le_refl _) (fun r2 hr2 pr2 => ?_)
  have t2 := zc_g3_3 hσ zc_s3
  refine zr_callVp (pc := 5) hV [ZI r2] (st := []) (c_X1_ticksOf_2 (σ := σ) hσ r2 (by omega)) dX1_priceOfSum_5 mX1_59 (zc_k255 zc_s255) (zc_pos zc_s255 rfl) (by decide) (Nat.le_of_ble_eq_true rfl) (Nat.le_refl _) (fun r5 hr5 pr5 => ?_)
  have t3 := zc_g3_3 hσ zc_s3
  have m5 : 0 ≤ r5 ∧ r5 ≤ 1000000 := by by_cases c : 0 ≤ r2; (have z := q0 r2 c (by omega); have y := pr5.1 ⟨c, by omega⟩; omega); (have y := pr5.2 (by omega); omega)
  have hmt : zq_hid ((r2 < 0 → r5 = 1000000) ∧ (0 ≤ r2 → r5 = σ (σ 10 r2) 11)) := ⟨fun c => pr5.2 (by omega), fun c => pr5.1 ⟨c, by omega⟩⟩
  clear pr5
  refine zr_istore_n (pc := 8) hV [some (ZR 255), some (ZI r5), none] dX1_priceOfSum_8 rfl (by decide) rfl rfl ?_
  refine zr_iconst (pc := 9) hV 0 dX1_priceOfSum_9 rfl ?_
  refine zr_istore_n (pc := 10) hV [some (ZR 255), some (ZI r5), some (ZI 0)] dX1_priceOfSum_10 rfl (by decide) rfl rfl ?_
  have L11 : ∀ (fuel : Nat) (x2_11 : Int) (σ_11 : zq_S), (0 ≤ x2_11 ∧ x2_11 ≤ 39) → (zc_T σ_11) → (zc_Fr [(272, -1), (273, -1)] σ σ_11) → (zc_N σ_11) → (zq_hid (zp_PS σ σ_11 told x2_11)) → (zq_hid (∀ j, 0 ≤ j → j < x2_11 → 0 ≤ σ_11 272 j ∧ σ_11 272 j ≤ 1000000)) → (x2_11 ≤ σ told 5) → 39 - x2_11 < (fuel : Int) → V 11 [some (ZR 255), some (ZI r5), some (ZI x2_11)] [] 284 σ_11 := by
    intro fuel
    induction fuel with
    | zero =>
      intro x2_11 σ_11 hx2_11 hσ_11 hFσ_11 Nσ_11 hi11_0 hi11_1 hi11_2 hm11
      exfalso; omega
    | succ fuel ih =>
      intro x2_11 σ_11 hx2_11 hσ_11 hFσ_11 Nσ_11 hi11_0 hi11_1 hi11_2 hm11
      have ih11 := ih
      show V 11 [some (ZR 255), some (ZI r5), some (ZI x2_11)] [] 284 σ_11
      refine zr_iload_n (pc := 11) hV dX1_priceOfSum_11 rfl rfl ?_
      refine zr_aload_n (pc := 12) hV dX1_priceOfSum_12 rfl rfl ?_
      have t4 : σ_11 255 1 = σ 255 1 := hFσ_11 _ _ (zc_out_at zc_s255 rfl)
      refine zr_getR (pc := 13) hV 1 told dX1_priceOfSum_13 fX1_12 rfl rfl (zc_k255 zc_s255) (zc_pos zc_s255 rfl) (by omega) (zc_pos ktold rfl).1 ?_
      refine zr_getI (pc := 16) hV 5 dX1_priceOfSum_16 fX1_63 rfl rfl (zc_k256 ktold) (zc_pos ktold rfl) ?_
      have t5 := zc_g256_5 hσ_11 ktold
      have t6 : σ_11 told 5 = σ told 5 := hFσ_11 _ _ (zc_out_at ktold rfl)
      refine zr_icmp_ge (pc := 19) hV 111 dX1_priceOfSum_19 (by decide) (by omega) (by omega) (fun c7 => ?_) (fun c7 => ?_)
      · show V 111 [some (ZR 255), some (ZI r5), some (ZI x2_11)] [] 284 σ_11
        refine zr_aload_n (pc := 111) hV dX1_priceOfSum_111 rfl rfl ?_
        have t8 : σ_11 255 1 = σ 255 1 := hFσ_11 _ _ (zc_out_at zc_s255 rfl)
        refine zr_getR (pc := 112) hV 1 told dX1_priceOfSum_112 fX1_12 rfl rfl (zc_k255 zc_s255) (zc_pos zc_s255 rfl) (by omega) (zc_pos ktold rfl).1 ?_
        refine zr_aload_n (pc := 115) hV dX1_priceOfSum_115 rfl rfl ?_
        have t9 : σ_11 255 1 = σ 255 1 := hFσ_11 _ _ (zc_out_at zc_s255 rfl)
        refine zr_getR (pc := 116) hV 1 told dX1_priceOfSum_116 fX1_12 rfl rfl (zc_k255 zc_s255) (zc_pos zc_s255 rfl) (by omega) (zc_pos ktold rfl).1 ?_
        refine zr_callVp (pc := 119) hV [] (st := [ZR told]) (c_X7_root (σ := σ_11) hσ_11 told ktold) dX1_priceOfSum_119 mX1_83 (zc_k256 ktold) (zc_pos ktold rfl) (by decide) (Nat.le_of_ble_eq_true rfl) (Nat.le_refl _) (fun r119 hr119 pr119 => ?_)
        have t10 := zc_g256_5 hσ_11 ktold
        have t11 : σ_11 told 5 = σ told 5 := hFσ_11 _ _ (zc_out_at ktold rfl)
        refine zr_callVp (pc := 122) hV [ZI r119] (st := []) (c_X7_isVariable_2 (σ := σ_11) hσ_11 told ktold r119 (by omega)) dX1_priceOfSum_122 mX1_66 (zc_k256 ktold) (zc_pos ktold rfl) (by decide) (Nat.le_of_ble_eq_true rfl) (Nat.le_refl _) (fun r122 hr122 pr122 => ?_)
        have e119 : r119 = σ told 5 - 1 := by omega
        rw [e119, hFσ_11 (told + 1) (σ told 5 - 1) (zc_out_ar (zc_p256_1 ktold) rfl)] at pr122
        refine zr_if_eq (pc := 125) hV 132 dX1_priceOfSum_125 (by decide) (by omega) (fun c12 => ?_) (fun c12 => ?_)
        · show V 132 [some (ZR 255), some (ZI r5), some (ZI x2_11)] [] 284 σ_11
          refine zr_aload_n (pc := 132) hV dX1_priceOfSum_132 rfl rfl ?_
          refine zr_getR (pc := 133) hV 5 272 dX1_priceOfSum_133 fX1_21 rfl rfl (zc_k255 zc_s255) (zc_pos zc_s255 rfl) (zc_g255_5 hσ_11 zc_s255) (by decide) ?_
          refine zr_aload_n (pc := 136) hV dX1_priceOfSum_136 rfl rfl ?_
          have t13 : σ_11 255 1 = σ 255 1 := hFσ_11 _ _ (zc_out_at zc_s255 rfl)
          refine zr_getR (pc := 137) hV 1 told dX1_priceOfSum_137 fX1_12 rfl rfl (zc_k255 zc_s255) (zc_pos zc_s255 rfl) (by omega) (zc_pos ktold rfl).1 ?_
          refine zr_callVp (pc := 140) hV [] (st := [ZR 272]) (c_X7_root (σ := σ_11) hσ_11 told ktold) dX1_priceOfSum_140 mX1_83 (zc_k256 ktold) (zc_pos ktold rfl) (by decide) (Nat.le_of_ble_eq_true rfl) (Nat.le_refl _) (fun r140 hr140 pr140 => ?_)
          have t14 := zc_g256_5 hσ_11 ktold
          have t15 : σ_11 told 5 = σ told 5 := hFσ_11 _ _ (zc_out_at ktold rfl)
          refine zr_iald (pc := 143) hV dX1_priceOfSum_143 (zc_k272 zc_s272) (zc_pos zc_s272 rfl) rfl (by omega) ?_
          have t16 := zc_ga272 hσ_11 zc_s272 r140
          show V 144 [some (ZR 255), some (ZI r5), some (ZI x2_11)] [ZI (σ_11 272 r140)] 284 σ_11
          have e140 : σ_11 272 r140 = σ_11 272 (σ told 5 - 1) := by rw [show r140 = σ told 5 - 1 by omega]
          refine zr_istore_n (pc := 144) hV [some (ZR 255), some (ZI r5), some (ZI (σ_11 272 r140))] dX1_priceOfSum_144 rfl (by decide) rfl rfl ?_
          refine zr_iload_n (pc := 145) hV dX1_priceOfSum_145 rfl rfl ?_
          refine zr_ldc (pc := 146) (v := 1000000) hV 1000000 dX1_priceOfSum_146 kX1_86 (by decide) ?_
          refine zr_icmp_ge (pc := 148) hV 155 dX1_priceOfSum_148 (by decide) (by omega) ⟨by decide, by decide⟩ (fun c17 => ?_) (fun c17 => ?_)
          · show V 155 [some (ZR 255), some (ZI r5), some (ZI (σ_11 272 r140))] [] 284 σ_11
            refine zr_bipush (pc := 155) hV (-4) dX1_priceOfSum_155 (by decide) ?_
            show V 157 [some (ZR 255), some (ZI r5), some (ZI (σ_11 272 r140))] [ZI (-4)] 284 σ_11
            exact zr_iret (pc := 157) hV dX1_priceOfSum_157 rfl rfl ⟨_, rfl, ⟨by decide, by decide⟩, hσ_11, hFσ_11, trivial, (show (∀ D, zp_W σ D (σ 255 1) → ((-4) : Int) = if zp_q D < 0 then -4 else zp_q D) ∧ zp_PS σ σ_11 (σ 255 1) (σ (σ 255 1) 5) from ⟨fun D hD => (by rw [etold] at hD; exact zp_q_r hD (show zp_PS σ σ_11 told (σ told 5) from (by rw [show σ told 5 = x2_11 by omega]; exact hi11_0)) pr2.2.2 (by omega) hmt ⟨fun q => ⟨fun q2 => by omega, fun q2 => by omega⟩, fun q => ⟨fun q2 => by omega, fun q2 => by omega⟩⟩), (by rw [etold]; exact (show zp_PS σ σ_11 told (σ told 5) from (by rw [show σ told 5 = x2_11 by omega]; exact hi11_0)))⟩), Nσ_11⟩
          · show V 151 [some (ZR 255), some (ZI r5), some (ZI (σ_11 272 r140))] [] 284 σ_11
            refine zr_iload_n (pc := 151) hV dX1_priceOfSum_151 rfl rfl ?_
            refine zr_goto (pc := 152) hV 157 dX1_priceOfSum_152 (by decide) ?_
            show V 157 [some (ZR 255), some (ZI r5), some (ZI (σ_11 272 r140))] [ZI (σ_11 272 r140)] 284 σ_11
            exact zr_iret (pc := 157) hV dX1_priceOfSum_157 rfl rfl ⟨_, rfl, (by omega), hσ_11, hFσ_11, trivial, (show (∀ D, zp_W σ D (σ 255 1) → (σ_11 272 r140) = if zp_q D < 0 then -4 else zp_q D) ∧ zp_PS σ σ_11 (σ 255 1) (σ (σ 255 1) 5) from ⟨fun D hD => (by rw [etold] at hD; exact zp_q_r hD (show zp_PS σ σ_11 told (σ told 5) from (by rw [show σ told 5 = x2_11 by omega]; exact hi11_0)) pr2.2.2 (by omega) hmt ⟨fun q => ⟨fun q2 => by omega, fun q2 => by omega⟩, fun q => ⟨fun q2 => by omega, fun q2 => by omega⟩⟩), (by rw [etold]; exact (show zp_PS σ σ_11 told (σ told 5) from (by rw [show σ told 5 = x2_11 by omega]; exact hi11_0)))⟩), Nσ_11⟩
        · show V 128 [some (ZR 255), some (ZI r5), some (ZI x2_11)] [] 284 σ_11
          refine zr_iload_n (pc := 128) hV dX1_priceOfSum_128 rfl rfl ?_
          refine zr_goto (pc := 129) hV 144 dX1_priceOfSum_129 (by decide) ?_
          show V 144 [some (ZR 255), some (ZI r5), some (ZI x2_11)] [ZI r5] 284 σ_11
          refine zr_istore_n (pc := 144) hV [some (ZR 255), some (ZI r5), some (ZI r5)] dX1_priceOfSum_144 rfl (by decide) rfl rfl ?_
          refine zr_iload_n (pc := 145) hV dX1_priceOfSum_145 rfl rfl ?_
          refine zr_ldc (pc := 146) (v := 1000000) hV 1000000 dX1_priceOfSum_146 kX1_86 (by decide) ?_
          refine zr_icmp_ge (pc := 148) hV 155 dX1_priceOfSum_148 (by decide) (by omega) ⟨by decide, by decide⟩ (fun c18 => ?_) (fun c18 => ?_)
          · show V 155 [some (ZR 255), some (ZI r5), some (ZI r5)] [] 284 σ_11
            refine zr_bipush (pc := 155) hV (-4) dX1_priceOfSum_155 (by decide) ?_
            show V 157 [some (ZR 255), some (ZI r5), some (ZI r5)] [ZI (-4)] 284 σ_11
            exact zr_iret (pc := 157) hV dX1_priceOfSum_157 rfl rfl ⟨_, rfl, ⟨by decide, by decide⟩, hσ_11, hFσ_11, trivial, (show (∀ D, zp_W σ D (σ 255 1) → ((-4) : Int) = if zp_q D < 0 then -4 else zp_q D) ∧ zp_PS σ σ_11 (σ 255 1) (σ (σ 255 1) 5) from ⟨fun D hD => (by rw [etold] at hD; exact zp_q_r hD (show zp_PS σ σ_11 told (σ told 5) from (by rw [show σ told 5 = x2_11 by omega]; exact hi11_0)) pr2.2.2 (by omega) hmt ⟨fun q => ⟨fun q2 => by omega, fun q2 => by omega⟩, fun q => ⟨fun q2 => by omega, fun q2 => by omega⟩⟩), (by rw [etold]; exact (show zp_PS σ σ_11 told (σ told 5) from (by rw [show σ told 5 = x2_11 by omega]; exact hi11_0)))⟩), Nσ_11⟩
          · show V 151 [some (ZR 255), some (ZI r5), some (ZI r5)] [] 284 σ_11
            refine zr_iload_n (pc := 151) hV dX1_priceOfSum_151 rfl rfl ?_
            refine zr_goto (pc := 152) hV 157 dX1_priceOfSum_152 (by decide) ?_
            show V 157 [some (ZR 255), some (ZI r5), some (ZI r5)] [ZI r5] 284 σ_11
            exact zr_iret (pc := 157) hV dX1_priceOfSum_157 rfl rfl ⟨_, rfl, (by omega), hσ_11, hFσ_11, trivial, (show (∀ D, zp_W σ D (σ 255 1) → r5 = if zp_q D < 0 then -4 else zp_q D) ∧ zp_PS σ σ_11 (σ 255 1) (σ (σ 255 1) 5) from ⟨fun D hD => (by rw [etold] at hD; exact zp_q_r hD (show zp_PS σ σ_11 told (σ told 5) from (by rw [show σ told 5 = x2_11 by omega]; exact hi11_0)) pr2.2.2 (by omega) hmt ⟨fun q => ⟨fun q2 => by omega, fun q2 => by omega⟩, fun q => ⟨fun q2 => by omega, fun q2 => by omega⟩⟩), (by rw [etold]; exact (show zp_PS σ σ_11 told (σ told 5) from (by rw [show σ told 5 = x2_11 by omega]; exact hi11_0)))⟩), Nσ_11⟩
      · show V 22 [some (ZR 255), some (ZI r5), some (ZI x2_11)] [] 284 σ_11
        have k11 : σ_11 (told + 1) x2_11 = σ (told + 1) x2_11 := hFσ_11 (told + 1) x2_11 (zc_out_ar (zc_p256_1 ktold) rfl)
        have w11 : σ_11 (told + 2) x2_11 = σ (told + 2) x2_11 := hFσ_11 (told + 2) x2_11 (zc_out_ar (zc_p256_2 ktold) rfl)
        have e33 : σ_11 3 3 = σ 3 3 := hFσ_11 3 3 (zc_out_at zc_s3 rfl)
        refine zr_aload_n (pc := 22) hV dX1_priceOfSum_22 rfl rfl ?_
        have t19 : σ_11 255 1 = σ 255 1 := hFσ_11 _ _ (zc_out_at zc_s255 rfl)
        refine zr_getR (pc := 23) hV 1 told dX1_priceOfSum_23 fX1_12 rfl rfl (zc_k255 zc_s255) (zc_pos zc_s255 rfl) (by omega) (zc_pos ktold rfl).1 ?_
        refine zr_iload_n (pc := 26) hV dX1_priceOfSum_26 rfl rfl ?_
        refine zr_callVp (pc := 27) hV [ZI x2_11] (st := []) (c_X7_isVariable_2 (σ := σ_11) hσ_11 told ktold x2_11 (by omega)) dX1_priceOfSum_27 mX1_66 (zc_k256 ktold) (zc_pos ktold rfl) (by decide) (Nat.le_of_ble_eq_true rfl) (Nat.le_refl _) (fun r27 hr27 pr27 => ?_)
        refine zr_if_eq (pc := 30) hV 50 dX1_priceOfSum_30 (by decide) (by omega) (fun c20 => ?_) (fun c20 => ?_)
        · show V 50 [some (ZR 255), some (ZI r5), some (ZI x2_11)] [] 284 σ_11
          refine zr_aload_n (pc := 50) hV dX1_priceOfSum_50 rfl rfl ?_
          have t21 : σ_11 255 1 = σ 255 1 := hFσ_11 _ _ (zc_out_at zc_s255 rfl)
          refine zr_getR (pc := 51) hV 1 told dX1_priceOfSum_51 fX1_12 rfl rfl (zc_k255 zc_s255) (zc_pos zc_s255 rfl) (by omega) (zc_pos ktold rfl).1 ?_
          refine zr_iload_n (pc := 54) hV dX1_priceOfSum_54 rfl rfl ?_
          refine zr_callVp (pc := 55) hV [ZI x2_11] (st := []) (c_X7_isLiteral_2 (σ := σ_11) hσ_11 told ktold x2_11 (by omega)) dX1_priceOfSum_55 mX1_70 (zc_k256 ktold) (zc_pos ktold rfl) (by decide) (Nat.le_of_ble_eq_true rfl) (Nat.le_refl _) (fun r55 hr55 pr55 => ?_)
          refine zr_if_eq (pc := 58) hV 99 dX1_priceOfSum_58 (by decide) (by omega) (fun c22 => ?_) (fun c22 => ?_)
          · show V 99 [some (ZR 255), some (ZI r5), some (ZI x2_11)] [] 284 σ_11
            refine zr_aload_n (pc := 99) hV dX1_priceOfSum_99 rfl rfl ?_
            refine zr_iload_n (pc := 100) hV dX1_priceOfSum_100 rfl rfl ?_
            refine zr_iload_n (pc := 101) hV dX1_priceOfSum_101 rfl rfl ?_
            refine zr_callVv (pc := 102) hV [ZI x2_11, ZI r5] (st := []) (c_X1_findSignPrice_2 (σ := σ_11) hσ_11 x2_11 r5 (by omega) (by omega) (zp_P2_fr hFσ_11 hσ q0) hi11_1 (by rw [hFσ_11 255 1 (zc_out_at zc_s255 rfl), etold, hFσ_11 (told + 3) x2_11 (zc_out_ar (zc_p256_3 ktold) rfl), hFσ_11 (told + 4) x2_11 (zc_out_ar (zc_p256_4 ktold) rfl)]; exact q1 x2_11 (by omega) (by omega) (by omega) (by omega))) dX1_priceOfSum_102 mX1_79 (zc_k255 zc_s255) (zc_pos zc_s255 rfl) (by decide) (Nat.le_of_ble_eq_true rfl) (Nat.le_refl _) (fun σ102 pσ102 => ?_)
            obtain ⟨hσ102, hfσ102, pσ102, wσ102⟩ := pσ102
            have hFσ102 := zc_Fc hfσ102 rfl hFσ_11
            have Nσ102 : zc_N σ102 := zc_N_fr hfσ102 rfl hσ_11 Nσ_11
            have t23 := zc_g3_3 hσ_11 zc_s3
            have t24 : σ_11 3 3 = σ 3 3 := hFσ_11 _ _ (zc_out_at zc_s3 rfl)
            show V 105 [some (ZR 255), some (ZI r5), some (ZI x2_11)] [] 284 σ102
            refine zr_iinc (pc := 105) hV [some (ZR 255), some (ZI r5), some (ZI (x2_11 + 1))] (x2_11 + 1) dX1_priceOfSum_105 rfl rfl (by decide) rfl rfl ?_
            refine zr_goto (pc := 108) hV 11 dX1_priceOfSum_108 (by decide) ?_
            exact ih11 (x2_11 + 1) σ102 (by omega) hσ102 hFσ102 Nσ102 (by have w := wσ102; unfold zq_hid at w; rw [hFσ_11 255 1 (zc_out_at zc_s255 rfl), etold] at w; exact zp_PS_s (mt := r5) (mv := r2) (τ := σ_11) (by omega) (by omega) ⟨by omega, by omega⟩ (fun D hD => zp_W_fr hFσ_11 hσ ktold hD) e33 pr2.2.2 (by omega) hmt w.2.1 w.2.2 w.1 hi11_0) (fun j j0 j1 => if c : j = x2_11 then (by rw [c]; exact pσ102) else (by have w := wσ102; unfold zq_hid at w; rw [hFσ_11 255 1 (zc_out_at zc_s255 rfl), etold] at w; rw [(w.1 j c).1]; exact hi11_1 j j0 (by omega))) (by omega) (by omega)
          · show V 61 [some (ZR 255), some (ZI r5), some (ZI x2_11)] [] 284 σ_11
            refine zr_aload_n (pc := 61) hV dX1_priceOfSum_61 rfl rfl ?_
            refine zr_getR (pc := 62) hV 6 273 dX1_priceOfSum_62 fX1_25 rfl rfl (zc_k255 zc_s255) (zc_pos zc_s255 rfl) (zc_g255_6 hσ_11 zc_s255) (by decide) ?_
            refine zr_iload_n (pc := 65) hV dX1_priceOfSum_65 rfl rfl ?_
            refine zr_aload_n (pc := 66) hV dX1_priceOfSum_66 rfl rfl ?_
            refine zr_aload_n (pc := 67) hV dX1_priceOfSum_67 rfl rfl ?_
            have t25 : σ_11 255 1 = σ 255 1 := hFσ_11 _ _ (zc_out_at zc_s255 rfl)
            refine zr_getR (pc := 68) hV 1 told dX1_priceOfSum_68 fX1_12 rfl rfl (zc_k255 zc_s255) (zc_pos zc_s255 rfl) (by omega) (zc_pos ktold rfl).1 ?_
            refine zr_getR (pc := 71) hV 1 (told + 2) dX1_priceOfSum_71 fX1_73 rfl rfl (zc_k256 ktold) (zc_pos ktold rfl) (zc_g256_1 hσ_11 ktold) (zc_pos (zc_p256_2 ktold) rfl).1 ?_
            refine zr_iload_n (pc := 74) hV dX1_priceOfSum_74 rfl rfl ?_
            refine zr_iald (pc := 75) hV dX1_priceOfSum_75 (zc_k258 (zc_p256_2 ktold)) (zc_pos (zc_p256_2 ktold) rfl) rfl (by omega) ?_
            have t26 := zc_ga258 hσ_11 (zc_p256_2 ktold) x2_11
            have t27 : σ_11 (told + 2) x2_11 = σ (told + 2) x2_11 := hFσ_11 _ _ (zc_out_ar (zc_p256_2 ktold) rfl)
            have t28 := zc_g3_3 hσ_11 zc_s3
            have t29 : σ_11 3 3 = σ 3 3 := hFσ_11 _ _ (zc_out_at zc_s3 rfl)
            refine zr_callVp (pc := 76) hV [ZI (σ_11 (told + 2) x2_11)] (st := [ZI x2_11, ZR 273]) (c_X1_leastLoad_2 (σ := σ_11) hσ_11 (σ_11 (told + 2) x2_11) (by omega) (fun o o0 o1 => (zp_P2_fr hFσ_11 hσ q0 o o0 o1).2)) dX1_priceOfSum_76 mX1_76 (zc_k255 zc_s255) (zc_pos zc_s255 rfl) (by decide) (Nat.le_of_ble_eq_true rfl) (Nat.le_refl _) (fun r76 hr76 pr76 => ?_)
            have t30 := zc_g3_3 hσ_11 zc_s3
            have t31 : σ_11 3 3 = σ 3 3 := hFσ_11 _ _ (zc_out_at zc_s3 rfl)
            have ll76 : zp_LL σ (σ (told + 2) x2_11) r76 (σ 3 3) := by have z := pr76.2.2; unfold zq_hid at z; rw [w11, e33] at z; exact fun D n p mv hD => z D n p mv (zp_T_fr hFσ_11 hσ hD)
            refine zr_iast (pc := 79) hV dX1_priceOfSum_79 (zc_k273 zc_s273) (zc_pos zc_s273 rfl) rfl (by omega) (fun σ79 eσ79 => ?_)
            have hσ79 : zc_T σ79 := zc_ua273 eσ79 hσ_11 zc_s273 (by omega)
            have hFσ79 := zc_Fa eσ79 zc_s273 rfl hFσ_11
            have Nσ79 : zc_N σ79 := zc_N_fr (zc_Fa eσ79 zc_s273 rfl (zc_Fr_rf [(273, -1)] _)) rfl hσ_11 Nσ_11
            refine zr_aload_n (pc := 80) hV dX1_priceOfSum_80 rfl rfl ?_
            refine zr_getR (pc := 81) hV 5 272 dX1_priceOfSum_81 fX1_21 rfl rfl (zc_k255 zc_s255) (zc_pos zc_s255 rfl) (zc_g255_5 hσ79 zc_s255) (by decide) ?_
            refine zr_iload_n (pc := 84) hV dX1_priceOfSum_84 rfl rfl ?_
            refine zr_aload_n (pc := 85) hV dX1_priceOfSum_85 rfl rfl ?_
            refine zr_aload_n (pc := 86) hV dX1_priceOfSum_86 rfl rfl ?_
            refine zr_getR (pc := 87) hV 6 273 dX1_priceOfSum_87 fX1_25 rfl rfl (zc_k255 zc_s255) (zc_pos zc_s255 rfl) (zc_g255_6 hσ79 zc_s255) (by decide) ?_
            refine zr_iload_n (pc := 90) hV dX1_priceOfSum_90 rfl rfl ?_
            refine zr_iald (pc := 91) hV dX1_priceOfSum_91 (zc_k273 zc_s273) (zc_pos zc_s273 rfl) rfl (by omega) ?_
            have t32 := zc_ga273 hσ79 zc_s273 x2_11
            have t33 : σ79 273 x2_11 = r76 := by rw [eσ79]; exact zq_up_same _ _ _ _
            refine zr_callVp (pc := 92) hV [ZI (σ79 273 x2_11)] (st := [ZI x2_11, ZR 272]) (c_X1_ticksOf_2 (σ := σ79) hσ79 (σ79 273 x2_11) (by omega)) dX1_priceOfSum_92 mX1_59 (zc_k255 zc_s255) (zc_pos zc_s255 rfl) (by decide) (Nat.le_of_ble_eq_true rfl) (Nat.le_refl _) (fun r92 hr92 pr92 => ?_)
            have t34 := zc_g3_3 hσ79 zc_s3
            have t35 : σ79 3 3 = σ_11 3 3 := by rw [eσ79]; exact zq_up_ne (zc_dk zc_s3 zc_s273 rfl)
            have t36 : σ_11 3 3 = σ 3 3 := hFσ_11 _ _ (zc_out_at zc_s3 rfl)
            have p79 : σ79 273 x2_11 = r76 := by rw [eσ79, zq_up_same]
            rw [p79] at pr92
            have s33 : σ79 3 3 = σ 3 3 := hFσ79 3 3 (zc_out_at zc_s3 rfl)
            have m92 : zq_hid ((0 ≤ r76 → r92 = σ (σ 10 r76) 11) ∧ (r76 < 0 → r92 = 1000000)) := ⟨fun q => by have ka := zc_ga10 hσ zc_s10 r76 q (by omega); rw [pr92.1 ⟨q, by omega⟩, hFσ79 10 r76 (zc_out_ar zc_s10 rfl), hFσ79 (σ 10 r76) 11 (zc_out_at ka rfl)], fun q => pr92.2 (by omega)⟩
            clear pr92
            have b92 : 0 ≤ r92 ∧ r92 ≤ 1000000 := by by_cases c : 0 ≤ r76; (have z := q0 r76 c (by omega); have y := m92.1 c; omega); (have y := m92.2 (by omega); omega)
            refine zr_iast (pc := 95) hV dX1_priceOfSum_95 (zc_k272 zc_s272) (zc_pos zc_s272 rfl) rfl (by omega) (fun σ95 eσ95 => ?_)
            have hσ95 : zc_T σ95 := zc_ua272 eσ95 hσ79 zc_s272 (by omega)
            have hFσ95 := zc_Fa eσ95 zc_s272 rfl hFσ79
            have Nσ95 : zc_N σ95 := zc_N_fr (zc_Fa eσ95 zc_s272 rfl (zc_Fr_rf [(272, -1)] _)) rfl hσ79 Nσ79
            refine zr_goto (pc := 96) hV 105 dX1_priceOfSum_96 (by decide) ?_
            show V 105 [some (ZR 255), some (ZI r5), some (ZI x2_11)] [] 284 σ95
            refine zr_iinc (pc := 105) hV [some (ZR 255), some (ZI r5), some (ZI (x2_11 + 1))] (x2_11 + 1) dX1_priceOfSum_105 rfl rfl (by decide) rfl rfl ?_
            refine zr_goto (pc := 108) hV 11 dX1_priceOfSum_108 (by decide) ?_
            exact ih11 (x2_11 + 1) σ95 (by omega) hσ95 hFσ95 Nσ95 (zp_PS_l (x := r76) (by omega) (by omega) (by omega) (by omega) ll76 (by rw [eσ95, zq_up_same]; exact m92) (by omega) (by rw [eσ95, zq_up_ne (by omega), eσ79, zq_up_same]) (fun j hj => ⟨by rw [eσ95, zq_up_ne (by omega), eσ79, zq_up_ne (by omega)], by rw [eσ95, zq_up_ne (by omega), eσ79, zq_up_ne (by omega)]⟩) hi11_0) (fun j j0 j1 => if c : j = x2_11 then (by rw [c, eσ95, zq_up_same]; exact b92) else (by rw [eσ95, zq_up_ne (by omega), eσ79, zq_up_ne (by omega)]; exact hi11_1 j j0 (by omega))) (by omega) (by omega)
        · show V 33 [some (ZR 255), some (ZI r5), some (ZI x2_11)] [] 284 σ_11
          refine zr_aload_n (pc := 33) hV dX1_priceOfSum_33 rfl rfl ?_
          refine zr_getR (pc := 34) hV 5 272 dX1_priceOfSum_34 fX1_21 rfl rfl (zc_k255 zc_s255) (zc_pos zc_s255 rfl) (zc_g255_5 hσ_11 zc_s255) (by decide) ?_
          refine zr_iload_n (pc := 37) hV dX1_priceOfSum_37 rfl rfl ?_
          refine zr_iconst (pc := 38) hV 0 dX1_priceOfSum_38 rfl ?_
          refine zr_iast (pc := 39) hV dX1_priceOfSum_39 (zc_k272 zc_s272) (zc_pos zc_s272 rfl) rfl (by omega) (fun σ39 eσ39 => ?_)
          have hσ39 : zc_T σ39 := zc_ua272 eσ39 hσ_11 zc_s272 (by omega)
          have hFσ39 := zc_Fa eσ39 zc_s272 rfl hFσ_11
          have Nσ39 : zc_N σ39 := zc_N_fr (zc_Fa eσ39 zc_s272 rfl (zc_Fr_rf [(272, -1)] _)) rfl hσ_11 Nσ_11
          refine zr_aload_n (pc := 40) hV dX1_priceOfSum_40 rfl rfl ?_
          refine zr_getR (pc := 41) hV 6 273 dX1_priceOfSum_41 fX1_25 rfl rfl (zc_k255 zc_s255) (zc_pos zc_s255 rfl) (zc_g255_6 hσ39 zc_s255) (by decide) ?_
          refine zr_iload_n (pc := 44) hV dX1_priceOfSum_44 rfl rfl ?_
          refine zr_iconst (pc := 45) hV (-1) dX1_priceOfSum_45 rfl ?_
          refine zr_iast (pc := 46) hV dX1_priceOfSum_46 (zc_k273 zc_s273) (zc_pos zc_s273 rfl) rfl (by omega) (fun σ46 eσ46 => ?_)
          have hσ46 : zc_T σ46 := zc_ua273 eσ46 hσ39 zc_s273 (by omega)
          have hFσ46 := zc_Fa eσ46 zc_s273 rfl hFσ39
          have Nσ46 : zc_N σ46 := zc_N_fr (zc_Fa eσ46 zc_s273 rfl (zc_Fr_rf [(273, -1)] _)) rfl hσ39 Nσ39
          refine zr_goto (pc := 47) hV 105 dX1_priceOfSum_47 (by decide) ?_
          show V 105 [some (ZR 255), some (ZI r5), some (ZI x2_11)] [] 284 σ46
          refine zr_iinc (pc := 105) hV [some (ZR 255), some (ZI r5), some (ZI (x2_11 + 1))] (x2_11 + 1) dX1_priceOfSum_105 rfl rfl (by decide) rfl rfl ?_
          refine zr_goto (pc := 108) hV 11 dX1_priceOfSum_108 (by decide) ?_
          exact ih11 (x2_11 + 1) σ46 (by omega) hσ46 hFσ46 Nσ46 (zp_PS_v (by omega) (by omega) (by omega) (by rw [eσ46, zq_up_ne (by omega), eσ39, zq_up_same]) (by rw [eσ46, zq_up_same]) (fun j hj => ⟨by rw [eσ46, zq_up_ne (by omega), eσ39, zq_up_ne (by omega)], by rw [eσ46, zq_up_ne (by omega), eσ39, zq_up_ne (by omega)]⟩) hi11_0) (fun j j0 j1 => if c : j = x2_11 then (by rw [c, eσ46, zq_up_ne (by omega), eσ39, zq_up_same]; omega) else (by rw [eσ46, zq_up_ne (by omega), eσ39, zq_up_ne (by omega)]; exact hi11_1 j j0 (by omega))) (by omega) (by omega)
  exact L11 (39 - (0 : Int) + 1 : Int).toNat 0 σ (by omega) hσ hFσ Nσ (zp_PS_0 σ σ told) (fun j j0 j1 => absurd j1 (by omega)) (by omega) (by omega)
