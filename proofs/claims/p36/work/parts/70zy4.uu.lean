set_option maxHeartbeats 800000 in
theorem c_X10_storesOf_2 {σ : zq_S} (hσ : zc_T σ) (letters : Int) (q0 : 0 ≤ letters ∧ letters ≤ 127) (q1 : zq_hid (∀ f, 0 ≤ f → f ≤ 2 → 0 ≤ σ 144 f ∧ σ 144 f ≤ 7)) : zq_C zc_w yX10_storesOf cX10_storesOf 4 (some .int) 0 0 284 284 [ZR 141, ZI letters] σ (zq_pp σ (fun r => (0 ≤ r ∧ r ≤ 1023) ∧ ∀ i : Nat, zw_tb r i ↔ zw_ls (σ 144) letters i)) := by
  refine zq_C_of (by decide) (Nat.le_refl _) (Nat.le_of_ble_eq_true rfl) [some (ZR 141), some (ZI letters), none, none] rfl (fun V hV => ?_)
  show V 0 [some (ZR 141), some (ZI letters), none, none] [] 284 σ
  refine zr_iconst (pc := 0) hV 0 dX10_storesOf_0 rfl ?_
  refine zr_istore_n (pc := 1) hV [some (ZR 141), some (ZI letters), some (ZI 0), none] dX10_storesOf_1 rfl (by decide) rfl rfl ?_
  refine zr_iconst (pc := 2) hV 0 dX10_storesOf_2 rfl ?_
  refine zr_istore_n (pc := 3) hV [some (ZR 141), some (ZI letters), some (ZI 0), some (ZI 0)] dX10_storesOf_3 rfl (by decide) rfl rfl ?_
  have L4 : ∀ (fuel : Nat) (x2_4 : Int) (x3_4 : Int), (0 ≤ x2_4 ∧ x2_4 ≤ 255) → (0 ≤ x3_4 ∧ x3_4 ≤ 3) → (zq_hid (∀ i : Nat, zw_tb x2_4 i ↔ ∃ f : Int, (0 ≤ f ∧ f < x3_4) ∧ zw_tb letters f.toNat ∧ (i : Int) = σ 144 f)) → 3 - x3_4 < (fuel : Int) → V 4 [some (ZR 141), some (ZI letters), some (ZI x2_4), some (ZI x3_4)] [] 284 σ := by
    intro fuel
    induction fuel with
    | zero =>
      intro x2_4 x3_4 hx2_4 hx3_4 hi4_0 hm4
      exfalso; omega
    | succ fuel ih =>
      intro x2_4 x3_4 hx2_4 hx3_4 hi4_0 hm4
      have ih4 := ih
      show V 4 [some (ZR 141), some (ZI letters), some (ZI x2_4), some (ZI x3_4)] [] 284 σ
      refine zr_iload_n (pc := 4) hV dX10_storesOf_4 rfl rfl ?_
      refine zr_iconst (pc := 5) hV 2 dX10_storesOf_5 rfl ?_
      refine zr_icmp_gt (pc := 6) hV 37 dX10_storesOf_6 (by decide) (by omega) ⟨by decide, by decide⟩ (fun c1 => ?_) (fun c1 => ?_)
      · show V 37 [some (ZR 141), some (ZI letters), some (ZI x2_4), some (ZI x3_4)] [] 284 σ
        refine zr_iload_n (pc := 37) hV dX10_storesOf_37 rfl rfl ?_
        refine zr_iload_n (pc := 38) hV dX10_storesOf_38 rfl rfl ?_
        refine zr_bipush (pc := 39) hV 8 dX10_storesOf_39 (by decide) ?_
        refine zr_iand (pc := 41) hV dX10_storesOf_41 ?_
        have t2 := zq_and_nnR (x := letters) (y := 8) (by omega)
        refine zr_if_ne (pc := 42) hV 49 dX10_storesOf_42 (by decide) (by omega) (fun c3 => ?_) (fun c3 => ?_)
        · show V 49 [some (ZR 141), some (ZI letters), some (ZI x2_4), some (ZI x3_4)] [ZI x2_4] 284 σ
          refine zr_sipush (pc := 49) hV 256 dX10_storesOf_49 (by decide) ?_
          show V 52 [some (ZR 141), some (ZI letters), some (ZI x2_4), some (ZI x3_4)] [ZI 256, ZI x2_4] 284 σ
          refine zr_ior (pc := 52) hV dX10_storesOf_52 ?_
          have t4 := zq_or_b (x := x2_4) (y := 256) 9 512 (by decide) (by decide) (by omega) (by omega)
          refine zr_istore_n (pc := 53) hV [some (ZR 141), some (ZI letters), some (ZI (zq_or x2_4 256)), some (ZI x3_4)] dX10_storesOf_53 rfl (by decide) rfl rfl ?_
          refine zr_iload_n (pc := 54) hV dX10_storesOf_54 rfl rfl ?_
          refine zr_iload_n (pc := 55) hV dX10_storesOf_55 rfl rfl ?_
          refine zr_bipush (pc := 56) hV 32 dX10_storesOf_56 (by decide) ?_
          refine zr_iand (pc := 58) hV dX10_storesOf_58 ?_
          have t5 := zq_and_nnR (x := letters) (y := 32) (by omega)
          refine zr_if_ne (pc := 59) hV 66 dX10_storesOf_59 (by decide) (by omega) (fun c6 => ?_) (fun c6 => ?_)
          · show V 66 [some (ZR 141), some (ZI letters), some (ZI (zq_or x2_4 256)), some (ZI x3_4)] [ZI (zq_or x2_4 256)] 284 σ
            refine zr_sipush (pc := 66) hV 512 dX10_storesOf_66 (by decide) ?_
            show V 69 [some (ZR 141), some (ZI letters), some (ZI (zq_or x2_4 256)), some (ZI x3_4)] [ZI 512, ZI (zq_or x2_4 256)] 284 σ
            refine zr_ior (pc := 69) hV dX10_storesOf_69 ?_
            have t7 := zq_or_b (x := zq_or x2_4 256) (y := 512) 10 1024 (by decide) (by decide) (by omega) (by omega)
            exact zr_iret (pc := 70) hV dX10_storesOf_70 rfl rfl ⟨rfl, _, rfl, (by omega), ⟨by omega, (fun i => by unfold zw_ls; rw [zw_tb_or (by omega) (by omega), zw_tb_or (by omega) (by omega)]; exact or_congr (or_congr (by have z := hi4_0 i; rw [show x3_4 = 3 by omega] at z; exact z) (by rw [zw_tb_2 8 (by decide)]; exact ⟨fun h => ⟨(zw_tb_k (y := 8) 3 (by decide) (by decide) (by omega)).mp (by omega), h⟩, fun h => h.2⟩)) (by rw [zw_tb_2 9 (by decide)]; exact ⟨fun h => ⟨(zw_tb_k (y := 32) 5 (by decide) (by decide) (by omega)).mp (by omega), h⟩, fun h => h.2⟩))⟩⟩
          · show V 62 [some (ZR 141), some (ZI letters), some (ZI (zq_or x2_4 256)), some (ZI x3_4)] [ZI (zq_or x2_4 256)] 284 σ
            refine zr_iconst (pc := 62) hV 0 dX10_storesOf_62 rfl ?_
            refine zr_goto (pc := 63) hV 69 dX10_storesOf_63 (by decide) ?_
            show V 69 [some (ZR 141), some (ZI letters), some (ZI (zq_or x2_4 256)), some (ZI x3_4)] [ZI 0, ZI (zq_or x2_4 256)] 284 σ
            refine zr_ior (pc := 69) hV dX10_storesOf_69 ?_
            have t8 := zq_or_b (x := zq_or x2_4 256) (y := 0) 9 512 (by decide) (by decide) (by omega) (by omega)
            exact zr_iret (pc := 70) hV dX10_storesOf_70 rfl rfl ⟨rfl, _, rfl, (by omega), ⟨by omega, (fun i => by unfold zw_ls; rw [zw_tb_or (by omega) (by omega), zw_tb_or (by omega) (by omega)]; exact or_congr (or_congr (by have z := hi4_0 i; rw [show x3_4 = 3 by omega] at z; exact z) (by rw [zw_tb_2 8 (by decide)]; exact ⟨fun h => ⟨(zw_tb_k (y := 8) 3 (by decide) (by decide) (by omega)).mp (by omega), h⟩, fun h => h.2⟩)) ⟨fun h => absurd h zw_tb_0, fun h => absurd ((zw_tb_k (y := 32) 5 (by decide) (by decide) (by omega)).mpr h.1) (by omega)⟩)⟩⟩
        · show V 45 [some (ZR 141), some (ZI letters), some (ZI x2_4), some (ZI x3_4)] [ZI x2_4] 284 σ
          refine zr_iconst (pc := 45) hV 0 dX10_storesOf_45 rfl ?_
          refine zr_goto (pc := 46) hV 52 dX10_storesOf_46 (by decide) ?_
          show V 52 [some (ZR 141), some (ZI letters), some (ZI x2_4), some (ZI x3_4)] [ZI 0, ZI x2_4] 284 σ
          refine zr_ior (pc := 52) hV dX10_storesOf_52 ?_
          have t9 := zq_or_b (x := x2_4) (y := 0) 8 256 (by decide) (by decide) (by omega) (by omega)
          refine zr_istore_n (pc := 53) hV [some (ZR 141), some (ZI letters), some (ZI (zq_or x2_4 0)), some (ZI x3_4)] dX10_storesOf_53 rfl (by decide) rfl rfl ?_
          refine zr_iload_n (pc := 54) hV dX10_storesOf_54 rfl rfl ?_
          refine zr_iload_n (pc := 55) hV dX10_storesOf_55 rfl rfl ?_
          refine zr_bipush (pc := 56) hV 32 dX10_storesOf_56 (by decide) ?_
          refine zr_iand (pc := 58) hV dX10_storesOf_58 ?_
          have t10 := zq_and_nnR (x := letters) (y := 32) (by omega)
          refine zr_if_ne (pc := 59) hV 66 dX10_storesOf_59 (by decide) (by omega) (fun c11 => ?_) (fun c11 => ?_)
          · show V 66 [some (ZR 141), some (ZI letters), some (ZI (zq_or x2_4 0)), some (ZI x3_4)] [ZI (zq_or x2_4 0)] 284 σ
            refine zr_sipush (pc := 66) hV 512 dX10_storesOf_66 (by decide) ?_
            show V 69 [some (ZR 141), some (ZI letters), some (ZI (zq_or x2_4 0)), some (ZI x3_4)] [ZI 512, ZI (zq_or x2_4 0)] 284 σ
            refine zr_ior (pc := 69) hV dX10_storesOf_69 ?_
            have t12 := zq_or_b (x := zq_or x2_4 0) (y := 512) 10 1024 (by decide) (by decide) (by omega) (by omega)
            exact zr_iret (pc := 70) hV dX10_storesOf_70 rfl rfl ⟨rfl, _, rfl, (by omega), ⟨by omega, (fun i => by unfold zw_ls; rw [zw_tb_or (by omega) (by omega), zw_tb_or (by omega) (by omega)]; exact or_congr (or_congr (by have z := hi4_0 i; rw [show x3_4 = 3 by omega] at z; exact z) ⟨fun h => absurd h zw_tb_0, fun h => absurd ((zw_tb_k (y := 8) 3 (by decide) (by decide) (by omega)).mpr h.1) (by omega)⟩) (by rw [zw_tb_2 9 (by decide)]; exact ⟨fun h => ⟨(zw_tb_k (y := 32) 5 (by decide) (by decide) (by omega)).mp (by omega), h⟩, fun h => h.2⟩))⟩⟩
          · show V 62 [some (ZR 141), some (ZI letters), some (ZI (zq_or x2_4 0)), some (ZI x3_4)] [ZI (zq_or x2_4 0)] 284 σ
            refine zr_iconst (pc := 62) hV 0 dX10_storesOf_62 rfl ?_
            refine zr_goto (pc := 63) hV 69 dX10_storesOf_63 (by decide) ?_
            show V 69 [some (ZR 141), some (ZI letters), some (ZI (zq_or x2_4 0)), some (ZI x3_4)] [ZI 0, ZI (zq_or x2_4 0)] 284 σ
            refine zr_ior (pc := 69) hV dX10_storesOf_69 ?_
            have t13 := zq_or_b (x := zq_or x2_4 0) (y := 0) 8 256 (by decide) (by decide) (by omega) (by omega)
            exact zr_iret (pc := 70) hV dX10_storesOf_70 rfl rfl ⟨rfl, _, rfl, (by omega), ⟨by omega, (fun i => by unfold zw_ls; rw [zw_tb_or (by omega) (by omega), zw_tb_or (by omega) (by omega)]; exact or_congr (or_congr (by have z := hi4_0 i; rw [show x3_4 = 3 by omega] at z; exact z) ⟨fun h => absurd h zw_tb_0, fun h => absurd ((zw_tb_k (y := 8) 3 (by decide) (by decide) (by omega)).mpr h.1) (by omega)⟩) ⟨fun h => absurd h zw_tb_0, fun h => absurd ((zw_tb_k (y := 32) 5 (by decide) (by decide) (by omega)).mpr h.1) (by omega)⟩)⟩⟩
      · show V 9 [some (ZR 141), some (ZI letters), some (ZI x2_4), some (ZI x3_4)] [] 284 σ
        refine zr_iload_n (pc := 9) hV dX10_storesOf_9 rfl rfl ?_
        refine zr_iconst (pc := 10) hV 1 dX10_storesOf_10 rfl ?_
        refine zr_iload_n (pc := 11) hV dX10_storesOf_11 rfl rfl ?_
        refine zr_ishl (pc := 12) hV dX10_storesOf_12 ?_
        have t14 := zx_shl_one (y := x3_4) 2 4 (by decide) (by decide) (by omega)
        refine zr_iand (pc := 13) hV dX10_storesOf_13 ?_
        have t15 := zq_and_nnR (x := letters) (y := zq_shl 1 x3_4) (by omega)
        refine zr_if_eq (pc := 14) hV 31 dX10_storesOf_14 (by decide) (by omega) (fun c16 => ?_) (fun c16 => ?_)
        · show V 31 [some (ZR 141), some (ZI letters), some (ZI x2_4), some (ZI x3_4)] [] 284 σ
          refine zr_iinc (pc := 31) hV [some (ZR 141), some (ZI letters), some (ZI x2_4), some (ZI (x3_4 + 1))] (x3_4 + 1) dX10_storesOf_31 rfl rfl (by decide) rfl rfl ?_
          refine zr_goto (pc := 34) hV 4 dX10_storesOf_34 (by decide) ?_
          exact ih4 x2_4 (x3_4 + 1) (by omega) (by omega) (fun i => by rw [zw_ex_s (by omega), hi4_0 i]; exact ⟨Or.inl, fun h => by rcases h with h | h; exact h; exact absurd ((zw_tb_1 (by omega) (by omega)).mpr h.1) (by omega)⟩) (by omega)
        · show V 17 [some (ZR 141), some (ZI letters), some (ZI x2_4), some (ZI x3_4)] [] 284 σ
          refine zr_iload_n (pc := 17) hV dX10_storesOf_17 rfl rfl ?_
          refine zr_iconst (pc := 18) hV 1 dX10_storesOf_18 rfl ?_
          refine zr_aload_n (pc := 19) hV dX10_storesOf_19 rfl rfl ?_
          refine zr_getR (pc := 20) hV 5 144 dX10_storesOf_20 fX10_18 rfl rfl (zc_k141 zc_s141) (zc_pos zc_s141 rfl) (zc_g141_5 hσ zc_s141) (by decide) ?_
          refine zr_iload_n (pc := 23) hV dX10_storesOf_23 rfl rfl ?_
          refine zr_iald (pc := 24) hV dX10_storesOf_24 (zc_k144 zc_s144) (zc_pos zc_s144 rfl) rfl (by omega) ?_
          have t17 := zc_ga144 hσ zc_s144 x3_4
          refine zr_bipush (pc := 25) hV 7 dX10_storesOf_25 (by decide) ?_
          refine zr_iand (pc := 27) hV dX10_storesOf_27 ?_
          have t18 := zq_and_mask (σ 144 x3_4) 3 7 8 (by decide) (by decide) (by decide)
          refine zr_ishl (pc := 28) hV dX10_storesOf_28 ?_
          have t19 := zx_shl_one (y := zq_and (σ 144 x3_4) 7) 7 128 (by decide) (by decide) (by omega)
          refine zr_ior (pc := 29) hV dX10_storesOf_29 ?_
          have t20 := zq_or_b (x := x2_4) (y := zq_shl 1 (zq_and (σ 144 x3_4) 7)) 8 256 (by decide) (by decide) (by omega) (by omega)
          refine zr_istore_n (pc := 30) hV [some (ZR 141), some (ZI letters), some (ZI (zq_or x2_4 (zq_shl 1 (zq_and (σ 144 x3_4) 7)))), some (ZI x3_4)] dX10_storesOf_30 rfl (by decide) rfl rfl ?_
          show V 31 [some (ZR 141), some (ZI letters), some (ZI (zq_or x2_4 (zq_shl 1 (zq_and (σ 144 x3_4) 7)))), some (ZI x3_4)] [] 284 σ
          refine zr_iinc (pc := 31) hV [some (ZR 141), some (ZI letters), some (ZI (zq_or x2_4 (zq_shl 1 (zq_and (σ 144 x3_4) 7)))), some (ZI (x3_4 + 1))] (x3_4 + 1) dX10_storesOf_31 rfl rfl (by decide) rfl rfl ?_
          refine zr_goto (pc := 34) hV 4 dX10_storesOf_34 (by decide) ?_
          exact ih4 (zq_or x2_4 (zq_shl 1 (zq_and (σ 144 x3_4) 7))) (x3_4 + 1) (by omega) (by omega) (fun i => by have f7 := q1 x3_4 (by omega) (by omega); have e7 : zq_and (σ 144 x3_4) 7 = σ 144 x3_4 := (by omega); rw [zw_ex_s (by omega), zw_tb_or (by omega) (by omega), hi4_0 i, zw_tb_sh (by omega), e7]; exact or_congr Iff.rfl ⟨fun h => ⟨(zw_tb_1 (by omega) (by omega)).mp (by omega), h⟩, fun h => h.2⟩) (by omega)
  exact L4 (3 - (0 : Int) + 1 : Int).toNat 0 0 (by omega) (by omega) (fun i => ⟨fun h => absurd h zw_tb_0, fun ⟨f, hf, _⟩ => by omega⟩) (by omega)
set_option maxHeartbeats 800000 in
theorem c_X10_undoChange_2 {σ : zq_S} (hσ : zc_T σ) (where_ : Int) (was : Int) (q0 : 0 ≤ where_ ∧ where_ ≤ 263) (q1 : zq_in was) : zq_C zc_w yX10_undoChange cX10_undoChange 3 (none) 0 0 284 284 [ZR 141, ZI where_, ZI was] σ (zq_pv (fun τ => zc_T τ ∧ zc_Fr [(142, -1), (143, -1)] σ τ ∧ (True) ∧ zq_hid (zw_cs τ 141 = zw_up (zw_cs σ 141) where_ was))) := by
  refine zq_C_of (by decide) (Nat.le_refl _) (Nat.le_of_ble_eq_true rfl) [some (ZR 141), some (ZI where_), some (ZI was)] rfl (fun V hV => ?_)
  have hFσ := zc_Fr_rf [(142, -1), (143, -1)] σ
  show V 0 [some (ZR 141), some (ZI where_), some (ZI was)] [] 284 σ
  refine zr_iload_n (pc := 0) hV dX10_undoChange_0 rfl rfl ?_
  refine zr_bipush (pc := 1) hV 8 dX10_undoChange_1 (by decide) ?_
  refine zr_icmp_ge (pc := 3) hV 19 dX10_undoChange_3 (by decide) (by omega) ⟨by decide, by decide⟩ (fun c1 => ?_) (fun c1 => ?_)
  · show V 19 [some (ZR 141), some (ZI where_), some (ZI was)] [] 284 σ
    refine zr_aload_n (pc := 19) hV dX10_undoChange_19 rfl rfl ?_
    refine zr_getR (pc := 20) hV 2 143 dX10_undoChange_20 fX10_15 rfl rfl (zc_k141 zc_s141) (zc_pos zc_s141 rfl) (zc_g141_2 hσ zc_s141) (by decide) ?_
    refine zr_iload_n (pc := 23) hV dX10_undoChange_23 rfl rfl ?_
    refine zr_bipush (pc := 24) hV 8 dX10_undoChange_24 (by decide) ?_
    refine zr_isub (pc := 26) hV dX10_undoChange_26 ?_
    refine zr_sipush (pc := 27) hV 255 dX10_undoChange_27 (by decide) ?_
    refine zr_iand (pc := 30) hV dX10_undoChange_30 ?_
    have t2 := zq_and_mask (where_ - 8) 8 255 256 (by decide) (by decide) (by decide)
    refine zr_iload_n (pc := 31) hV dX10_undoChange_31 rfl rfl ?_
    refine zr_iast (pc := 32) hV dX10_undoChange_32 (zc_k143 zc_s143) (zc_pos zc_s143 rfl) rfl (by omega) (fun σ32 eσ32 => ?_)
    have hσ32 : zc_T σ32 := zc_ua143 eσ32 hσ zc_s143 (by omega)
    have hFσ32 := zc_Fa eσ32 zc_s143 rfl hFσ
    show V 33 [some (ZR 141), some (ZI where_), some (ZI was)] [] 284 σ32
    exact zr_vret (pc := 33) hV dX10_undoChange_33 rfl rfl ⟨rfl, hσ32, hFσ32, trivial, (show zw_cs σ32 141 = zw_up (zw_cs σ 141) where_ was from (by have z := zw_cs_um (b := 141) eσ32 rfl (by omega) (by omega); rw [z, show 8 + zq_and (where_ - 8) 255 = where_ by omega]))⟩
  · show V 6 [some (ZR 141), some (ZI where_), some (ZI was)] [] 284 σ
    refine zr_aload_n (pc := 6) hV dX10_undoChange_6 rfl rfl ?_
    refine zr_getR (pc := 7) hV 1 142 dX10_undoChange_7 fX10_11 rfl rfl (zc_k141 zc_s141) (zc_pos zc_s141 rfl) (zc_g141_1 hσ zc_s141) (by decide) ?_
    refine zr_iload_n (pc := 10) hV dX10_undoChange_10 rfl rfl ?_
    refine zr_bipush (pc := 11) hV 7 dX10_undoChange_11 (by decide) ?_
    refine zr_iand (pc := 13) hV dX10_undoChange_13 ?_
    have t3 := zq_and_mask where_ 3 7 8 (by decide) (by decide) (by decide)
    refine zr_iload_n (pc := 14) hV dX10_undoChange_14 rfl rfl ?_
    refine zr_iast (pc := 15) hV dX10_undoChange_15 (zc_k142 zc_s142) (zc_pos zc_s142 rfl) rfl (by omega) (fun σ15 eσ15 => ?_)
    have hσ15 : zc_T σ15 := zc_ua142 eσ15 hσ zc_s142 (by omega)
    have hFσ15 := zc_Fa eσ15 zc_s142 rfl hFσ
    refine zr_goto (pc := 16) hV 33 dX10_undoChange_16 (by decide) ?_
    show V 33 [some (ZR 141), some (ZI where_), some (ZI was)] [] 284 σ15
    exact zr_vret (pc := 33) hV dX10_undoChange_33 rfl rfl ⟨rfl, hσ15, hFσ15, trivial, (show zw_cs σ15 141 = zw_up (zw_cs σ 141) where_ was from (zw_cs_ur (b := 141) (show σ15 = zq_up σ 142 where_ was by rw [eσ15, show zq_and where_ 7 = where_ by omega]) rfl (by omega)))⟩
