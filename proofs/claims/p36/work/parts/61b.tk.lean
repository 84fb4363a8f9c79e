set_option maxHeartbeats 800000 in
theorem c_X3_isOf_2 {σ : zq_S} (hσ : zc_T σ) (this : Int) (kthis : zc_kd this = 4) (bits : Int) (q0 : zq_in bits) : zq_C zc_w yX3_isOf cX3_isOf 2 (some .boolean) 0 0 284 284 [ZR this, ZI bits] σ (zq_pp σ (fun r => (0 ≤ r ∧ r ≤ 1) ∧ (r = 1 ↔ zq_and bits (σ this 1) = σ this 2))) := by
  refine zq_C_of (by decide) (Nat.le_refl _) (Nat.le_of_ble_eq_true rfl) [some (ZR this), some (ZI bits)] rfl (fun V hV => ?_)
  have pothis := zc_pos kthis rfl
  show V 0 [some (ZR this), some (ZI bits)] [] 284 σ
  refine zr_iload_n (pc := 0) hV dX3_isOf_0 rfl rfl ?_
  refine zr_aload_n (pc := 1) hV dX3_isOf_1 rfl rfl ?_
  refine zr_getI (pc := 2) hV 1 dX3_isOf_2 fX3_31 rfl rfl (zc_k4 kthis) (zc_pos kthis rfl) ?_
  have t1 := zc_g4_1 hσ kthis
  refine zr_iand (pc := 5) hV dX3_isOf_5 ?_
  have t2 := zq_and_in bits (σ this 1)
  refine zr_aload_n (pc := 6) hV dX3_isOf_6 rfl rfl ?_
  refine zr_getI (pc := 7) hV 2 dX3_isOf_7 fX3_34 rfl rfl (zc_k4 kthis) (zc_pos kthis rfl) ?_
  have t3 := zc_g4_2 hσ kthis
  refine zr_icmp_ne (pc := 10) hV 17 dX3_isOf_10 (by decide) (by omega) (by omega) (fun c4 => ?_) (fun c4 => ?_)
  · show V 17 [some (ZR this), some (ZI bits)] [] 284 σ
    refine zr_iconst (pc := 17) hV 0 dX3_isOf_17 rfl ?_
    show V 18 [some (ZR this), some (ZI bits)] [ZI 0] 284 σ
    exact zr_zret (pc := 18) hV dX3_isOf_18 rfl rfl (by omega) ⟨rfl, _, rfl, ⟨by decide, by decide⟩, (by omega)⟩
  · show V 13 [some (ZR this), some (ZI bits)] [] 284 σ
    refine zr_iconst (pc := 13) hV 1 dX3_isOf_13 rfl ?_
    refine zr_goto (pc := 14) hV 18 dX3_isOf_14 (by decide) ?_
    show V 18 [some (ZR this), some (ZI bits)] [ZI 1] 284 σ
    exact zr_zret (pc := 18) hV dX3_isOf_18 rfl rfl (by omega) ⟨rfl, _, rfl, ⟨by decide, by decide⟩, (by omega)⟩
set_option maxHeartbeats 800000 in
theorem c_X9_markBits_2 {σ : zq_S} (hσ : zc_T σ) (order : Int) (korder : zc_kd order = 4) (number : Int) (q0 : (-1) ≤ number ∧ number ≤ 19) : zq_C zc_w yX9_markBits cX9_markBits 4 (none) 1 21 284 284 [ZR 3, ZR order, ZI number] σ (zq_pv (fun τ => zc_T τ ∧ zc_Fr [(11, -1)] σ τ ∧ (True) ∧ zq_hid (zt_mark σ τ (zx_p2 (σ 3 2)) (σ order 1) (σ order 2) number))) := by
  refine zq_C_of (by decide) (Nat.le_refl _) (Nat.le_of_ble_eq_true rfl) [some (ZR 3), some (ZR order), some (ZI number), none] rfl (fun V hV => ?_)
  have poorder := zc_pos korder rfl
  have hFσ := zc_Fr_rf [(11, -1)] σ
  have zpp := zx_p2_pos (σ 3 2)
  show V 0 [some (ZR 3), some (ZR order), some (ZI number), none] [] 284 σ
  refine zr_iconst (pc := 0) hV 0 dX9_markBits_0 rfl ?_
  refine zr_istore_n (pc := 1) hV [some (ZR 3), some (ZR order), some (ZI number), some (ZI 0)] dX9_markBits_1 rfl (by decide) rfl rfl ?_
  have L2 : ∀ (fuel : Nat) (x3_2 : Int) (σ_2 : zq_S), (0 ≤ x3_2 ∧ x3_2 ≤ 4096) → (zc_T σ_2) → (zc_Fr [(11, -1)] σ σ_2) → (x3_2 ≤ zx_p2 (σ 3 2)) → (zq_hid (∀ i, σ_2 11 i = if 0 ≤ i ∧ i < x3_2 ∧ zq_and i (σ order 1) = σ order 2 then number else σ 11 i)) → 4096 - x3_2 < (fuel : Int) → V 2 [some (ZR 3), some (ZR order), some (ZI number), some (ZI x3_2)] [] 284 σ_2 := by
    intro fuel
    induction fuel with
    | zero =>
      intro x3_2 σ_2 hx3_2 hσ_2 hFσ_2 hi2_0 hi2_1 hm2
      exfalso; omega
    | succ fuel ih =>
      intro x3_2 σ_2 hx3_2 hσ_2 hFσ_2 hi2_0 hi2_1 hm2
      have ih2 := ih
      show V 2 [some (ZR 3), some (ZR order), some (ZI number), some (ZI x3_2)] [] 284 σ_2
      refine zr_iload_n (pc := 2) hV dX9_markBits_2 rfl rfl ?_
      refine zr_aload_n (pc := 3) hV dX9_markBits_3 rfl rfl ?_
      refine zr_callVp (pc := 4) hV [] (st := [ZI x3_2]) (c_X9_bitsInAll_2 (σ := σ_2) hσ_2) dX9_markBits_4 mX9_48 (zc_k3 zc_s3) (zc_pos zc_s3 rfl) (by decide) (Nat.le_of_ble_eq_true rfl) (Nat.le_refl _) (fun r4 hr4 pr4 => ?_)
      have t1 := zc_g3_2 hσ_2 zc_s3
      have t2 : σ_2 3 2 = σ 3 2 := hFσ_2 _ _ (zc_out_at zc_s3 rfl)
      have f32 : σ_2 3 2 = σ 3 2 := hFσ_2 3 2 (zc_out_at zc_s3 rfl)
      rw [f32] at pr4
      refine zr_icmp_ge (pc := 7) hV 31 dX9_markBits_7 (by decide) (by omega) (by omega) (fun c3 => ?_) (fun c3 => ?_)
      · show V 31 [some (ZR 3), some (ZR order), some (ZI number), some (ZI x3_2)] [] 284 σ_2
        exact zr_vret (pc := 31) hV dX9_markBits_31 rfl rfl ⟨rfl, hσ_2, hFσ_2, trivial, (show zt_mark σ σ_2 (zx_p2 (σ 3 2)) (σ order 1) (σ order 2) number from (fun i => by rw [hi2_1 i, show x3_2 = zx_p2 (σ 3 2) by omega]))⟩
      · show V 10 [some (ZR 3), some (ZR order), some (ZI number), some (ZI x3_2)] [] 284 σ_2
        refine zr_aload_n (pc := 10) hV dX9_markBits_10 rfl rfl ?_
        refine zr_iload_n (pc := 11) hV dX9_markBits_11 rfl rfl ?_
        refine zr_callVp (pc := 12) hV [ZI x3_2] (st := []) (c_X3_isOf_2 (σ := σ_2) hσ_2 order korder x3_2 (by omega)) dX9_markBits_12 mX9_88 (zc_k4 korder) (zc_pos korder rfl) (by decide) (Nat.le_of_ble_eq_true rfl) (Nat.le_refl _) (fun r12 hr12 pr12 => ?_)
        have t4 := zc_g4_1 hσ_2 korder
        have t5 : σ_2 order 1 = σ order 1 := hFσ_2 _ _ (zc_out_at korder rfl)
        have t6 := zc_g4_2 hσ_2 korder
        have t7 : σ_2 order 2 = σ order 2 := hFσ_2 _ _ (zc_out_at korder rfl)
        have fo1 : σ_2 order 1 = σ order 1 := hFσ_2 order 1 (zc_out_at korder rfl)
        have fo2 : σ_2 order 2 = σ order 2 := hFσ_2 order 2 (zc_out_at korder rfl)
        rw [fo1, fo2] at pr12
        refine zr_if_eq (pc := 15) hV 25 dX9_markBits_15 (by decide) (by omega) (fun c8 => ?_) (fun c8 => ?_)
        · show V 25 [some (ZR 3), some (ZR order), some (ZI number), some (ZI x3_2)] [] 284 σ_2
          refine zr_iinc (pc := 25) hV [some (ZR 3), some (ZR order), some (ZI number), some (ZI (x3_2 + 1))] (x3_2 + 1) dX9_markBits_25 rfl rfl (by decide) rfl rfl ?_
          refine zr_goto (pc := 28) hV 2 dX9_markBits_28 (by decide) ?_
          exact ih2 (x3_2 + 1) σ_2 (by omega) hσ_2 hFσ_2 (by omega) (fun i => if hc : i = x3_2 then (by rw [hi2_1 i, hc, if_neg (by omega), if_neg (by omega)]) else (by rw [hi2_1 i]; exact if hd : 0 ≤ i ∧ i < x3_2 ∧ zq_and i (σ order 1) = σ order 2 then (by rw [if_pos hd, if_pos (by omega)]) else (by rw [if_neg hd, if_neg (by omega)]))) (by omega)
        · show V 18 [some (ZR 3), some (ZR order), some (ZI number), some (ZI x3_2)] [] 284 σ_2
          refine zr_aload_n (pc := 18) hV dX9_markBits_18 rfl rfl ?_
          refine zr_getR (pc := 19) hV 7 11 dX9_markBits_19 fX9_22 rfl rfl (zc_k3 zc_s3) (zc_pos zc_s3 rfl) (zc_g3_7 hσ_2 zc_s3) (by decide) ?_
          refine zr_iload_n (pc := 22) hV dX9_markBits_22 rfl rfl ?_
          refine zr_iload_n (pc := 23) hV dX9_markBits_23 rfl rfl ?_
          refine zr_iast (pc := 24) hV dX9_markBits_24 (zc_k11 zc_s11) (zc_pos zc_s11 rfl) rfl (by omega) (fun σ24 eσ24 => ?_)
          have hσ24 : zc_T σ24 := zc_ua11 eσ24 hσ_2 zc_s11 (by omega)
          have hFσ24 := zc_Fa eσ24 zc_s11 rfl hFσ_2
          show V 25 [some (ZR 3), some (ZR order), some (ZI number), some (ZI x3_2)] [] 284 σ24
          refine zr_iinc (pc := 25) hV [some (ZR 3), some (ZR order), some (ZI number), some (ZI (x3_2 + 1))] (x3_2 + 1) dX9_markBits_25 rfl rfl (by decide) rfl rfl ?_
          refine zr_goto (pc := 28) hV 2 dX9_markBits_28 (by decide) ?_
          exact ih2 (x3_2 + 1) σ24 (by omega) hσ24 hFσ24 (by omega) (fun i => if hc : i = x3_2 then (by rw [hc, eσ24, zq_up_same, if_pos (by omega)]) else (by rw [eσ24, zq_up_ne (by omega), hi2_1 i]; exact if hd : 0 ≤ i ∧ i < x3_2 ∧ zq_and i (σ order 1) = σ order 2 then (by rw [if_pos hd, if_pos (by omega)]) else (by rw [if_neg hd, if_neg (by omega)]))) (by omega)
  exact L2 (4096 - (0 : Int) + 1 : Int).toNat 0 σ (by omega) hσ hFσ (by omega) (fun i => by rw [if_neg (by omega)]) (by omega)
set_option maxHeartbeats 800000 in
theorem c_X9_leastSharedBits_2 {σ : zq_S} (hσ : zc_T σ) (sp : Int) (esp : σ 3 5 = sp) (ksp : zc_kd sp = 4)  : zq_C zc_w yX9_leastSharedBits cX9_leastSharedBits 5 (some .int) 1 21 284 284 [ZR 3] σ (zq_pp σ (fun r => (0 ≤ r ∧ r ≤ 4096) ∧ r ≤ zx_p2 (σ 3 2) ∧ zq_hid (zt_min (σ 10) σ sp (σ 3 3) (zx_p2 (σ 3 2)) r))) := by
  refine zq_C_of (by decide) (Nat.le_refl _) (Nat.le_of_ble_eq_true rfl) [some (ZR 3), none, none, none, none] rfl (fun V hV => ?_)
  have posp := zc_pos ksp rfl
  show V 0 [some (ZR 3), none, none, none, none] [] 284 σ
  refine zr_aload_n (pc := 0) hV dX9_leastSharedBits_0 rfl rfl ?_
  refine zr_callVp (pc := 1) hV [] (st := []) (c_X9_bitsInAll_2 (σ := σ) hσ) dX9_leastSharedBits_1 mX9_48 (zc_k3 zc_s3) (zc_pos zc_s3 rfl) (by decide) (Nat.le_of_ble_eq_true rfl) (Nat.le_refl _) (fun r1 hr1 pr1 => ?_)
  have t1 := zc_g3_2 hσ zc_s3
  refine zr_istore_n (pc := 4) hV [some (ZR 3), some (ZI r1), none, none, none] dX9_leastSharedBits_4 rfl (by decide) rfl rfl ?_
  refine zr_iconst (pc := 5) hV 0 dX9_leastSharedBits_5 rfl ?_
  refine zr_istore_n (pc := 6) hV [some (ZR 3), some (ZI r1), some (ZI 0), none, none] dX9_leastSharedBits_6 rfl (by decide) rfl rfl ?_
  have L7 : ∀ (fuel : Nat) (x1_7 : Int) (x2_7 : Int), (0 ≤ x1_7 ∧ x1_7 ≤ 4096) → (0 ≤ x2_7 ∧ x2_7 ≤ 20) → (x1_7 ≤ zx_p2 (σ 3 2)) → (zq_hid (∀ i, 0 ≤ i → i < x2_7 → zt_lu (σ 10) σ sp i = 0 → x1_7 ≤ zt_lo (σ 10) σ sp i)) → (zq_hid (x1_7 = zx_p2 (σ 3 2) ∨ ∃ i, 0 ≤ i ∧ i < x2_7 ∧ zt_lu (σ 10) σ sp i = 0 ∧ x1_7 = zt_lo (σ 10) σ sp i)) → (x2_7 ≤ σ 3 3) → 20 - x2_7 < (fuel : Int) → V 7 [some (ZR 3), some (ZI x1_7), some (ZI x2_7), none, none] [] 284 σ := by
    intro fuel
    induction fuel with
    | zero =>
      intro x1_7 x2_7 hx1_7 hx2_7 hi7_0 hi7_1 hi7_2 hi7_3 hm7
      exfalso; omega
    | succ fuel ih =>
      intro x1_7 x2_7 hx1_7 hx2_7 hi7_0 hi7_1 hi7_2 hi7_3 hm7
      have ih7 := ih
      show V 7 [some (ZR 3), some (ZI x1_7), some (ZI x2_7), none, none] [] 284 σ
      refine zr_iload_n (pc := 7) hV dX9_leastSharedBits_7 rfl rfl ?_
      refine zr_aload_n (pc := 8) hV dX9_leastSharedBits_8 rfl rfl ?_
      refine zr_getI (pc := 9) hV 3 dX9_leastSharedBits_9 fX9_36 rfl rfl (zc_k3 zc_s3) (zc_pos zc_s3 rfl) ?_
      have t2 := zc_g3_3 hσ zc_s3
      refine zr_icmp_ge (pc := 12) hV 77 dX9_leastSharedBits_12 (by decide) (by omega) (by omega) (fun c3 => ?_) (fun c3 => ?_)
      · show V 77 [some (ZR 3), some (ZI x1_7), some (ZI x2_7), none, none] [] 284 σ
        refine zr_iload_n (pc := 77) hV dX9_leastSharedBits_77 rfl rfl ?_
        exact zr_iret (pc := 78) hV dX9_leastSharedBits_78 rfl rfl ⟨rfl, _, rfl, (by omega), ⟨by omega, ⟨by omega, ⟨fun i h0 h1 => hi7_1 i h0 (by omega), Or.imp id (fun ⟨i, h0, h1, h2, h3⟩ => ⟨i, h0, by omega, h2, h3⟩) hi7_2⟩⟩⟩⟩
      · show V 15 [some (ZR 3), some (ZI x1_7), some (ZI x2_7), none, none] [] 284 σ
        refine zr_aload_n (pc := 15) hV dX9_leastSharedBits_15 rfl rfl ?_
        refine zr_getR (pc := 16) hV 6 10 dX9_leastSharedBits_16 fX9_18 rfl rfl (zc_k3 zc_s3) (zc_pos zc_s3 rfl) (zc_g3_6 hσ zc_s3) (by decide) ?_
        refine zr_iload_n (pc := 19) hV dX9_leastSharedBits_19 rfl rfl ?_
        have ga20 : zc_kd (σ 10 x2_7) = 4 := zc_ga10 hσ zc_s10 x2_7 (by omega) (by omega)
        refine zr_aald (pc := 20) hV dX9_leastSharedBits_20 (zc_k10 zc_s10) (Or.inl rfl) (zc_pos zc_s10 rfl) rfl (by omega) (zc_pos ga20 rfl).1 ?_
        obtain ⟨o20, eo20⟩ : ∃ o, σ 10 x2_7 = o := ⟨_, rfl⟩
        rw [eo20] at ga20 ⊢
        have ko20 := ga20
        have po20 := zc_pos ko20 rfl
        show V 21 [some (ZR 3), some (ZI x1_7), some (ZI x2_7), none, none] [ZR o20] 284 σ
        refine zr_astore_n (pc := 21) hV [some (ZR 3), some (ZI x1_7), some (ZI x2_7), some (ZR o20), none] dX9_leastSharedBits_21 rfl (by decide) rfl rfl ?_
        refine zr_aload_n (pc := 22) hV dX9_leastSharedBits_22 rfl rfl ?_
        refine zr_getI (pc := 23) hV 2 dX9_leastSharedBits_23 fX9_69 rfl rfl (zc_k4 ko20) (zc_pos ko20 rfl) ?_
        have t4 := zc_g4_2 hσ ko20
        refine zr_aload_n (pc := 26) hV dX9_leastSharedBits_26 rfl rfl ?_
        refine zr_getR (pc := 27) hV 5 sp dX9_leastSharedBits_27 fX9_12 rfl rfl (zc_k3 zc_s3) (zc_pos zc_s3 rfl) (by omega) (zc_pos ksp rfl).1 ?_
        refine zr_getI (pc := 30) hV 2 dX9_leastSharedBits_30 fX9_69 rfl rfl (zc_k4 ksp) (zc_pos ksp rfl) ?_
        have t5 := zc_g4_2 hσ ksp
        refine zr_ixor (pc := 33) hV dX9_leastSharedBits_33 ?_
        have t6 := zq_xor_b (x := σ o20 2) (y := σ sp 2) 12 4096 (by decide) (by decide) (by omega) (by omega)
        refine zr_aload_n (pc := 34) hV dX9_leastSharedBits_34 rfl rfl ?_
        refine zr_getI (pc := 35) hV 1 dX9_leastSharedBits_35 fX9_72 rfl rfl (zc_k4 ko20) (zc_pos ko20 rfl) ?_
        have t7 := zc_g4_1 hσ ko20
        refine zr_iand (pc := 38) hV dX9_leastSharedBits_38 ?_
        have t8 := zq_and_nnL (x := zq_xor (σ o20 2) (σ sp 2)) (y := σ o20 1) (by omega)
        refine zr_aload_n (pc := 39) hV dX9_leastSharedBits_39 rfl rfl ?_
        refine zr_getR (pc := 40) hV 5 sp dX9_leastSharedBits_40 fX9_12 rfl rfl (zc_k3 zc_s3) (zc_pos zc_s3 rfl) (by omega) (zc_pos ksp rfl).1 ?_
        refine zr_getI (pc := 43) hV 1 dX9_leastSharedBits_43 fX9_72 rfl rfl (zc_k4 ksp) (zc_pos ksp rfl) ?_
        have t9 := zc_g4_1 hσ ksp
        refine zr_iand (pc := 46) hV dX9_leastSharedBits_46 ?_
        have t10 := zq_and_nnL (x := zq_and (zq_xor (σ o20 2) (σ sp 2)) (σ o20 1)) (y := σ sp 1) (by omega)
        refine zr_istore (pc := 47) hV [some (ZR 3), some (ZI x1_7), some (ZI x2_7), some (ZR o20), some (ZI (zq_and (zq_and (zq_xor (σ o20 2) (σ sp 2)) (σ o20 1)) (σ sp 1)))] dX9_leastSharedBits_47 (by decide) rfl rfl ?_
        have zlu : zt_lu (σ 10) σ sp x2_7 = zq_and (zq_and (zq_xor (σ o20 2) (σ sp 2)) (σ o20 1)) (σ sp 1) := by unfold zt_lu; rw [eo20]
        have zlo : zt_lo (σ 10) σ sp x2_7 = zq_or (σ o20 2) (σ sp 2) := by unfold zt_lo; rw [eo20]
        refine zr_iload (pc := 49) hV dX9_leastSharedBits_49 rfl ?_
        refine zr_if_ne (pc := 51) hV 71 dX9_leastSharedBits_51 (by decide) (by omega) (fun c11 => ?_) (fun c11 => ?_)
        · show V 71 [some (ZR 3), some (ZI x1_7), some (ZI x2_7), some (ZR o20), some (ZI (zq_and (zq_and (zq_xor (σ o20 2) (σ sp 2)) (σ o20 1)) (σ sp 1)))] [] 284 σ
          refine zr_iinc (pc := 71) hV [some (ZR 3), some (ZI x1_7), some (ZI (x2_7 + 1)), some (ZR o20), some (ZI (zq_and (zq_and (zq_xor (σ o20 2) (σ sp 2)) (σ o20 1)) (σ sp 1)))] (x2_7 + 1) dX9_leastSharedBits_71 rfl rfl (by decide) rfl rfl ?_
          refine zr_goto (pc := 74) hV 7 dX9_leastSharedBits_74 (by decide) ?_
          have t12 := zc_g3_2 hσ zc_s3
          have t13 := zc_g3_2 hσ zc_s3
          have t14 := zc_g3_3 hσ zc_s3
          refine zr_sub (pc := 7) hV [some (ZR 3), some (ZI x1_7), some (ZI (x2_7 + 1)), none, none] (⟨rfl, rfl, rfl, trivial⟩) ?_
          exact ih7 x1_7 (x2_7 + 1) (by omega) (by omega) (by omega) (fun i h0 h1 hz => if hc : i = x2_7 then (by rw [hc] at hz ⊢; omega) else (by have := hi7_1 i h0 (by omega) hz; omega)) (Or.imp id (fun ⟨i, h0, h1, h2, h3⟩ => ⟨i, h0, by omega, h2, h3⟩) hi7_2) (by omega) (by omega)
        · show V 54 [some (ZR 3), some (ZI x1_7), some (ZI x2_7), some (ZR o20), some (ZI (zq_and (zq_and (zq_xor (σ o20 2) (σ sp 2)) (σ o20 1)) (σ sp 1)))] [] 284 σ
          refine zr_iload_n (pc := 54) hV dX9_leastSharedBits_54 rfl rfl ?_
          refine zr_aload_n (pc := 55) hV dX9_leastSharedBits_55 rfl rfl ?_
          refine zr_getI (pc := 56) hV 2 dX9_leastSharedBits_56 fX9_69 rfl rfl (zc_k4 ko20) (zc_pos ko20 rfl) ?_
          have t15 := zc_g4_2 hσ ko20
          refine zr_aload_n (pc := 59) hV dX9_leastSharedBits_59 rfl rfl ?_
          refine zr_getR (pc := 60) hV 5 sp dX9_leastSharedBits_60 fX9_12 rfl rfl (zc_k3 zc_s3) (zc_pos zc_s3 rfl) (by omega) (zc_pos ksp rfl).1 ?_
          refine zr_getI (pc := 63) hV 2 dX9_leastSharedBits_63 fX9_69 rfl rfl (zc_k4 ksp) (zc_pos ksp rfl) ?_
          have t16 := zc_g4_2 hσ ksp
          refine zr_ior (pc := 66) hV dX9_leastSharedBits_66 ?_
          have t17 := zq_or_b (x := σ o20 2) (y := σ sp 2) 12 4096 (by decide) (by decide) (by omega) (by omega)
          refine zr_min (pc := 67) hV (st := []) dX9_leastSharedBits_67 lX9_75 (by omega) (by omega) (Nat.le_of_ble_eq_true rfl) rfl rfl (fun r67 pr67 qr67 => ?_)
          refine zr_istore_n (pc := 70) hV [some (ZR 3), some (ZI r67), some (ZI x2_7), some (ZR o20), some (ZI (zq_and (zq_and (zq_xor (σ o20 2) (σ sp 2)) (σ o20 1)) (σ sp 1)))] dX9_leastSharedBits_70 rfl (by decide) rfl rfl ?_
          show V 71 [some (ZR 3), some (ZI r67), some (ZI x2_7), some (ZR o20), some (ZI (zq_and (zq_and (zq_xor (σ o20 2) (σ sp 2)) (σ o20 1)) (σ sp 1)))] [] 284 σ
          refine zr_iinc (pc := 71) hV [some (ZR 3), some (ZI r67), some (ZI (x2_7 + 1)), some (ZR o20), some (ZI (zq_and (zq_and (zq_xor (σ o20 2) (σ sp 2)) (σ o20 1)) (σ sp 1)))] (x2_7 + 1) dX9_leastSharedBits_71 rfl rfl (by decide) rfl rfl ?_
          refine zr_goto (pc := 74) hV 7 dX9_leastSharedBits_74 (by decide) ?_
          have t18 := zc_g3_2 hσ zc_s3
          have t19 := zc_g3_2 hσ zc_s3
          have t20 := zc_g3_3 hσ zc_s3
          refine zr_sub (pc := 7) hV [some (ZR 3), some (ZI r67), some (ZI (x2_7 + 1)), none, none] (⟨rfl, rfl, rfl, trivial⟩) ?_
          exact ih7 r67 (x2_7 + 1) (by omega) (by omega) (by omega) (fun i h0 h1 hz => if hc : i = x2_7 then (by rw [hc] at hz ⊢; omega) else (by have := hi7_1 i h0 (by omega) hz; omega)) (if hm : r67 = x1_7 then (Or.imp (fun q => hm.trans q) (fun ⟨i, h0, h1, h2, h3⟩ => ⟨i, h0, by omega, h2, hm.trans h3⟩) hi7_2) else Or.inr ⟨x2_7, by omega, by omega, by omega, by omega⟩) (by omega) (by omega)
  have t21 := zc_g3_2 hσ zc_s3
  have t22 := zc_g3_2 hσ zc_s3
  have t23 := zc_g3_3 hσ zc_s3
  exact L7 (20 - (0 : Int) + 1 : Int).toNat r1 0 (by omega) (by omega) (by omega) (fun i h0 h1 => absurd h1 (by omega)) (Or.inl (by omega)) (by omega) (by omega)
set_option maxHeartbeats 800000 in
theorem c_X9_removeLatest_2 {σ : zq_S} (hσ : zc_T σ)   : zq_C zc_w yX9_removeLatest cX9_removeLatest 1 (some .int) 2 44 284 284 [ZR 3] σ (zq_pi (fun r τ => zc_T τ ∧ zc_Fr [(3, 3), (11, -1)] σ τ ∧ ((σ 3 3 = 0 → r = -2 ∧ τ 3 3 = 0) ∧ (σ 3 3 ≠ 0 → r = σ 3 3 - 1 ∧ τ 3 3 = σ 3 3 - 1)) ∧ zq_hid ((σ 3 3 = 0 → ∀ i, τ 11 i = σ 11 i) ∧ (σ 3 3 ≠ 0 → zt_mark σ τ (zx_p2 (σ 3 2)) (σ (σ 10 (σ 3 3 - 1)) 1) (σ (σ 10 (σ 3 3 - 1)) 2) (-1))))) := by
  refine zq_C_of (by decide) (Nat.le_refl _) (Nat.le_of_ble_eq_true rfl) [some (ZR 3)] rfl (fun V hV => ?_)
  have hFσ := zc_Fr_rf [(3, 3), (11, -1)] σ
  show V 0 [some (ZR 3)] [] 284 σ
  refine zr_aload_n (pc := 0) hV dX9_removeLatest_0 rfl rfl ?_
  refine zr_getI (pc := 1) hV 3 dX9_removeLatest_1 fX9_36 rfl rfl (zc_k3 zc_s3) (zc_pos zc_s3 rfl) ?_
  have t1 := zc_g3_3 hσ zc_s3
  refine zr_if_ne (pc := 4) hV 10 dX9_removeLatest_4 (by decide) (by omega) (fun c2 => ?_) (fun c2 => ?_)
  · show V 10 [some (ZR 3)] [] 284 σ
    refine zr_aload_n (pc := 10) hV dX9_removeLatest_10 rfl rfl ?_
    refine zr_dup (pc := 11) hV dX9_removeLatest_11 (fun _ => rfl) ?_
    refine zr_getI (pc := 12) hV 3 dX9_removeLatest_12 fX9_36 rfl rfl (zc_k3 zc_s3) (zc_pos zc_s3 rfl) ?_
    have t3 := zc_g3_3 hσ zc_s3
    refine zr_iconst (pc := 15) hV 1 dX9_removeLatest_15 rfl ?_
    refine zr_isub (pc := 16) hV dX9_removeLatest_16 ?_
    refine zr_putI (pc := 17) hV 3 dX9_removeLatest_17 fX9_36 rfl rfl rfl (zc_k3 zc_s3) (zc_pos zc_s3 rfl) (fun σ17 eσ17 => ?_)
    have hσ17 : zc_T σ17 := zc_u3_3 eσ17 hσ zc_s3 (by omega)
    have hFσ17 := zc_Fw eσ17 zc_s3 rfl hFσ
    refine zr_aload_n (pc := 20) hV dX9_removeLatest_20 rfl rfl ?_
    refine zr_aload_n (pc := 21) hV dX9_removeLatest_21 rfl rfl ?_
    refine zr_getR (pc := 22) hV 6 10 dX9_removeLatest_22 fX9_18 rfl rfl (zc_k3 zc_s3) (zc_pos zc_s3 rfl) (zc_g3_6 hσ17 zc_s3) (by decide) ?_
    refine zr_aload_n (pc := 25) hV dX9_removeLatest_25 rfl rfl ?_
    refine zr_getI (pc := 26) hV 3 dX9_removeLatest_26 fX9_36 rfl rfl (zc_k3 zc_s3) (zc_pos zc_s3 rfl) ?_
    have t4 := zc_g3_3 hσ17 zc_s3
    have t5 : σ17 3 3 = (σ 3 3) - 1 := by rw [eσ17]; exact zq_up_same _ _ _ _
    have ga29 : zc_kd (σ17 10 (σ17 3 3)) = 4 := zc_ga10 hσ17 zc_s10 (σ17 3 3) (by omega) (by omega)
    refine zr_aald (pc := 29) hV dX9_removeLatest_29 (zc_k10 zc_s10) (Or.inl rfl) (zc_pos zc_s10 rfl) rfl (by omega) (zc_pos ga29 rfl).1 ?_
    obtain ⟨o29, eo29⟩ : ∃ o, σ17 10 (σ17 3 3) = o := ⟨_, rfl⟩
    rw [eo29] at ga29 ⊢
    have ko29 := ga29
    have po29 := zc_pos ko29 rfl
    show V 30 [some (ZR 3)] [ZR o29, ZR 3] 284 σ17
    refine zr_iconst (pc := 30) hV (-1) dX9_removeLatest_30 rfl ?_
    refine zr_callVv (pc := 31) hV [ZR o29, ZI (-1)] (st := []) (c_X9_markBits_2 (σ := σ17) hσ17 o29 ko29 (-1) (by omega)) dX9_removeLatest_31 mX9_84 (zc_k3 zc_s3) (zc_pos zc_s3 rfl) (by decide) (Nat.le_of_ble_eq_true rfl) (Nat.le_refl _) (fun σ31 pσ31 => ?_)
    obtain ⟨hσ31, hfσ31, pσ31, wσ31⟩ := pσ31
    have hFσ31 := zc_Fc hfσ31 rfl hFσ17
    have t6 := zc_g3_2 hσ17 zc_s3
    have t7 : σ17 3 2 = σ 3 2 := by rw [eσ17]; exact zq_up_ne (by omega)
    have t8 := zc_g4_1 hσ17 ko29
    have t9 : σ17 o29 1 = σ o29 1 := by rw [eσ17]; exact zq_up_ne (zc_dk ko29 zc_s3 rfl)
    have t10 := zc_g4_2 hσ17 ko29
    have t11 : σ17 o29 2 = σ o29 2 := by rw [eσ17]; exact zq_up_ne (zc_dk ko29 zc_s3 rfl)
    have z33 : σ17 3 3 = σ 3 3 - 1 := by omega
    have zo : o29 = σ 10 (σ 3 3 - 1) := by rw [← eo29, z33, eσ17, zq_up_ne (by omega)]
    have f32 : σ17 3 2 = σ 3 2 := hFσ17 3 2 (zc_out_at zc_s3 rfl)
    have f1 : σ17 o29 1 = σ o29 1 := hFσ17 o29 1 (zc_out_at ko29 rfl)
    have f2 : σ17 o29 2 = σ o29 2 := hFσ17 o29 2 (zc_out_at ko29 rfl)
    rw [f32, f1, f2, zo] at wσ31
    refine zr_aload_n (pc := 34) hV dX9_removeLatest_34 rfl rfl ?_
    refine zr_getI (pc := 35) hV 3 dX9_removeLatest_35 fX9_36 rfl rfl (zc_k3 zc_s3) (zc_pos zc_s3 rfl) ?_
    have t12 := zc_g3_3 hσ31 zc_s3
    have t13 : σ31 3 3 = σ17 3 3 := hfσ31 _ _ (zc_out_at zc_s3 rfl)
    have t14 : σ17 3 3 = (σ 3 3) - 1 := by rw [eσ17]; exact zq_up_same _ _ _ _
    have t15 := zc_g3_3 hσ31 zc_s3
    have t16 : σ31 3 3 = σ17 3 3 := hfσ31 _ _ (zc_out_at zc_s3 rfl)
    have t17 : σ17 3 3 = (σ 3 3) - 1 := by rw [eσ17]; exact zq_up_same _ _ _ _
    exact zr_iret (pc := 38) hV dX9_removeLatest_38 rfl rfl ⟨_, rfl, (by omega), hσ31, hFσ31, (by omega), (show (σ 3 3 = 0 → ∀ i, σ31 11 i = σ 11 i) ∧ (σ 3 3 ≠ 0 → zt_mark σ σ31 (zx_p2 (σ 3 2)) (σ (σ 10 (σ 3 3 - 1)) 1) (σ (σ 10 (σ 3 3 - 1)) 2) (-1)) from ⟨fun h => absurd h (by omega), fun _ => (fun i => by have q := wσ31 i; rw [eσ17, zq_up_ne (by omega)] at q; exact q)⟩)⟩
  · show V 7 [some (ZR 3)] [] 284 σ
    refine zr_bipush (pc := 7) hV (-2) dX9_removeLatest_7 (by decide) ?_
    have t18 := zc_g3_3 hσ zc_s3
    exact zr_iret (pc := 9) hV dX9_removeLatest_9 rfl rfl ⟨_, rfl, ⟨by decide, by decide⟩, hσ, hFσ, (by omega), (show (σ 3 3 = 0 → ∀ i, σ 11 i = σ 11 i) ∧ (σ 3 3 ≠ 0 → zt_mark σ σ (zx_p2 (σ 3 2)) (σ (σ 10 (σ 3 3 - 1)) 1) (σ (σ 10 (σ 3 3 - 1)) 2) (-1)) from ⟨fun _ => fun _ => rfl, fun h => absurd (by omega) h⟩)⟩
set_option maxHeartbeats 800000 in
theorem c_X11_unorder_2 {σ : zq_S} (hσ : zc_T σ)   (Uσ : zc_U σ) : zq_C zc_w yX11_unorder cX11_unorder 1 (some .int) 3 64 284 284 [ZR 0] σ (zq_pi (fun r τ => zc_T τ ∧ zc_Fr [(3, 3), (11, -1)] σ τ ∧ ((σ 3 3 = 0 → r = -2 ∧ τ 3 3 = 0) ∧ (σ 3 3 ≠ 0 → r = σ 3 3 - 1 ∧ τ 3 3 = σ 3 3 - 1)) ∧ zq_hid ((σ 3 3 = 0 → ∀ i, τ 11 i = σ 11 i) ∧ (σ 3 3 ≠ 0 → zt_mark σ τ (zx_p2 (σ 3 2)) (σ (σ 10 (σ 3 3 - 1)) 1) (σ (σ 10 (σ 3 3 - 1)) 2) (-1))) ∧ zc_U τ)) := by
  refine zq_C_of (by decide) (Nat.le_refl _) (Nat.le_of_ble_eq_true rfl) [some (ZR 0)] rfl (fun V hV => ?_)
  have hFσ := zc_Fr_rf [(3, 3), (11, -1)] σ
  show V 0 [some (ZR 0)] [] 284 σ
  refine zr_aload_n (pc := 0) hV dX11_unorder_0 rfl rfl ?_
  refine zr_getR (pc := 1) hV 1 3 dX11_unorder_1 fX11_19 rfl rfl (zc_k0 zc_s0) (zc_pos zc_s0 rfl) (zc_g0_1 hσ zc_s0) (by decide) ?_
  refine zr_callVi (pc := 4) hV [] (st := []) (c_X9_removeLatest_2 (σ := σ) hσ) dX11_unorder_4 mX11_114 (zc_k3 zc_s3) (zc_pos zc_s3 rfl) (by decide) (Nat.le_of_ble_eq_true rfl) (Nat.le_refl _) (fun r4 σ4 hr4 pσ4 => ?_)
  obtain ⟨hσ4, hfσ4, pσ4, wσ4⟩ := pσ4
  have hFσ4 := zc_Fc hfσ4 rfl hFσ
  have Uσ4 : zc_U σ4 := zc_U_fr hfσ4 rfl hσ Uσ
  have t1 := zc_g3_2 hσ zc_s3
  have t2 := zc_g3_3 hσ zc_s3
  have t3 := zc_g3_3 hσ4 zc_s3
  have t4 := zc_g3_3 hσ4 zc_s3
  exact zr_iret (pc := 7) hV dX11_unorder_7 rfl rfl ⟨_, rfl, (by omega), hσ4, hFσ4, (by omega), (show (σ 3 3 = 0 → ∀ i, σ4 11 i = σ 11 i) ∧ (σ 3 3 ≠ 0 → zt_mark σ σ4 (zx_p2 (σ 3 2)) (σ (σ 10 (σ 3 3 - 1)) 1) (σ (σ 10 (σ 3 3 - 1)) 2) (-1)) from wσ4), Uσ4⟩

