/-! ===== an Order is made, anywhere; the Telling with its twenty-one ===== -/
theorem zc_ord {m : Nat} (h : m < 20) : zc_kd ((12 + 6 * m : Nat) : Int) = 4 := by
  unfold zc_kd
  repeat' split
  all_goals omega
set_option maxHeartbeats 800000 in
theorem c_X3_init (a : Nat) (ka : zc_kd (a : Int) = 4) {σ : zq_S} (q0 : ∀ i, σ (a : Int) i = zq_df 3 i) : zq_C zc_w yX3_init cX3_init 1 (none) 1 20 (a + 1) (a + 6) [ZR (a : Int)] σ (zq_pv (fun τ => (∀ x i : Int, (a : Int) ≤ x → x ≤ (a : Int) + 5 → τ x i = zc_I x i) ∧ (∀ x i : Int, x < (a : Int) ∨ (a : Int) + 5 < x → τ x i = σ x i))) := by
  refine zq_C_of (by decide) (by omega) (Nat.le_of_ble_eq_true rfl) [some (ZR (a : Int))] rfl (fun V hV => ?_)
  have po := zc_pos ka rfl
  refine zr_aload_n (pc := 0) hV dX3_init_0 rfl rfl ?_
  refine zr_objInit (pc := 1) hV dX3_init_1 lo3 lo_i lo_c (by decide) (by decide) ?_
  refine zr_aload_n (pc := 4) hV dX3_init_4 rfl rfl ?_
  refine zr_iconst (pc := 5) hV 4 dX3_init_5 rfl ?_
  refine zr_newa (pc := 6) hV 4 dX3_init_6 rfl rfl carr (zc_k5 (zc_p4_1 ka)) (by omega) (fun σ6 eσ6 => ?_)
  have eσ6 : σ6 = zq_cell σ ((a : Int) + 1) (fun _ => 0) := eσ6
  show V 8 [some (ZR (a : Int))] [ZR ((a : Int) + 1), ZR (a : Int)] (a + 2) σ6
  refine zr_putR (pc := 8) hV 3 dX3_init_8 fX3_9 rfl (Or.inr ⟨rfl, rfl⟩) rfl (by omega) (zc_k4 ka) (by omega) (fun σ8 eσ8 => ?_)
  refine zr_aload_n (pc := 11) hV dX3_init_11 rfl rfl ?_
  refine zr_iconst (pc := 12) hV 3 dX3_init_12 rfl ?_
  refine zr_newa (pc := 13) hV 3 dX3_init_13 rfl rfl carr (zc_k6 (zc_p4_2 ka)) (by omega) (fun σ13 eσ13 => ?_)
  have eσ13 : σ13 = zq_cell σ8 ((a : Int) + 2) (fun _ => 0) := eσ13
  show V 15 [some (ZR (a : Int))] [ZR ((a : Int) + 2), ZR (a : Int)] (a + 3) σ13
  refine zr_putR (pc := 15) hV 7 dX3_init_15 fX3_15 rfl (Or.inr ⟨rfl, rfl⟩) rfl (by omega) (zc_k4 ka) (by omega) (fun σ15 eσ15 => ?_)
  refine zr_aload_n (pc := 18) hV dX3_init_18 rfl rfl ?_
  refine zr_iconst (pc := 19) hV 3 dX3_init_19 rfl ?_
  refine zr_newa (pc := 20) hV 3 dX3_init_20 rfl rfl carr (zc_k7 (zc_p4_3 ka)) (by omega) (fun σ20 eσ20 => ?_)
  have eσ20 : σ20 = zq_cell σ15 ((a : Int) + 3) (fun _ => 0) := eσ20
  show V 22 [some (ZR (a : Int))] [ZR ((a : Int) + 3), ZR (a : Int)] (a + 4) σ20
  refine zr_putR (pc := 22) hV 8 dX3_init_22 fX3_18 rfl (Or.inr ⟨rfl, rfl⟩) rfl (by omega) (zc_k4 ka) (by omega) (fun σ22 eσ22 => ?_)
  refine zr_aload_n (pc := 25) hV dX3_init_25 rfl rfl ?_
  refine zr_iconst (pc := 26) hV 3 dX3_init_26 rfl ?_
  refine zr_newa (pc := 27) hV 3 dX3_init_27 rfl rfl carr (zc_k8 (zc_p4_4 ka)) (by omega) (fun σ27 eσ27 => ?_)
  have eσ27 : σ27 = zq_cell σ22 ((a : Int) + 4) (fun _ => 0) := eσ27
  show V 29 [some (ZR (a : Int))] [ZR ((a : Int) + 4), ZR (a : Int)] (a + 5) σ27
  refine zr_putR (pc := 29) hV 9 dX3_init_29 fX3_21 rfl (Or.inr ⟨rfl, rfl⟩) rfl (by omega) (zc_k4 ka) (by omega) (fun σ29 eσ29 => ?_)
  refine zr_aload_n (pc := 32) hV dX3_init_32 rfl rfl ?_
  refine zr_iconst (pc := 33) hV 3 dX3_init_33 rfl ?_
  refine zr_newa (pc := 34) hV 3 dX3_init_34 rfl rfl carr (zc_k9 (zc_p4_5 ka)) (by omega) (fun σ34 eσ34 => ?_)
  have eσ34 : σ34 = zq_cell σ29 ((a : Int) + 5) (fun _ => 0) := eσ34
  show V 36 [some (ZR (a : Int))] [ZR ((a : Int) + 5), ZR (a : Int)] (a + 6) σ34
  refine zr_putR (pc := 36) hV 10 dX3_init_36 fX3_24 rfl (Or.inr ⟨rfl, rfl⟩) rfl (by omega) (zc_k4 ka) (by omega) (fun σ36 eσ36 => ?_)
  refine zr_vret (pc := 39) hV dX3_init_39 rfl rfl ⟨rfl, ?_, ?_⟩
  · intro x i h1 h2
    by_cases s0 : x = (a : Int)
    · rw [s0, zc_Ie4 ka]
      unfold zc_I4
      by_cases j3 : i = 3
      · rw [if_pos j3, j3, eσ36, zq_up_ne (by omega), eσ34, zq_cell_no (by omega), eσ29, zq_up_ne (by omega), eσ27, zq_cell_no (by omega), eσ22, zq_up_ne (by omega), eσ20, zq_cell_no (by omega), eσ15, zq_up_ne (by omega), eσ13, zq_cell_no (by omega), eσ8, zq_up_same]
      rw [if_neg j3]
      by_cases j7 : i = 7
      · rw [if_pos j7, j7, eσ36, zq_up_ne (by omega), eσ34, zq_cell_no (by omega), eσ29, zq_up_ne (by omega), eσ27, zq_cell_no (by omega), eσ22, zq_up_ne (by omega), eσ20, zq_cell_no (by omega), eσ15, zq_up_same]
      rw [if_neg j7]
      by_cases j8 : i = 8
      · rw [if_pos j8, j8, eσ36, zq_up_ne (by omega), eσ34, zq_cell_no (by omega), eσ29, zq_up_ne (by omega), eσ27, zq_cell_no (by omega), eσ22, zq_up_same]
      rw [if_neg j8]
      by_cases j9 : i = 9
      · rw [if_pos j9, j9, eσ36, zq_up_ne (by omega), eσ34, zq_cell_no (by omega), eσ29, zq_up_same]
      rw [if_neg j9]
      by_cases j10 : i = 10
      · rw [if_pos j10, j10, eσ36, zq_up_same]
      rw [if_neg j10, eσ36, zq_up_ne (by omega), eσ34, zq_cell_no (by omega), eσ29, zq_up_ne (by omega), eσ27, zq_cell_no (by omega), eσ22, zq_up_ne (by omega), eσ20, zq_cell_no (by omega), eσ15, zq_up_ne (by omega), eσ13, zq_cell_no (by omega), eσ8, zq_up_ne (by omega), eσ6, zq_cell_no (by omega)]
      exact q0 i
    by_cases s1 : x = (a : Int) + 1
    · rw [s1, zc_Ie5 (zc_p4_1 ka), eσ36, zq_up_ne (by omega), eσ34, zq_cell_no (by omega), eσ29, zq_up_ne (by omega), eσ27, zq_cell_no (by omega), eσ22, zq_up_ne (by omega), eσ20, zq_cell_no (by omega), eσ15, zq_up_ne (by omega), eσ13, zq_cell_no (by omega), eσ8, zq_up_ne (by omega), eσ6, zq_cell_at]; rfl
    by_cases s2 : x = (a : Int) + 2
    · rw [s2, zc_Ie6 (zc_p4_2 ka), eσ36, zq_up_ne (by omega), eσ34, zq_cell_no (by omega), eσ29, zq_up_ne (by omega), eσ27, zq_cell_no (by omega), eσ22, zq_up_ne (by omega), eσ20, zq_cell_no (by omega), eσ15, zq_up_ne (by omega), eσ13, zq_cell_at]; rfl
    by_cases s3 : x = (a : Int) + 3
    · rw [s3, zc_Ie7 (zc_p4_3 ka), eσ36, zq_up_ne (by omega), eσ34, zq_cell_no (by omega), eσ29, zq_up_ne (by omega), eσ27, zq_cell_no (by omega), eσ22, zq_up_ne (by omega), eσ20, zq_cell_at]; rfl
    by_cases s4 : x = (a : Int) + 4
    · rw [s4, zc_Ie8 (zc_p4_4 ka), eσ36, zq_up_ne (by omega), eσ34, zq_cell_no (by omega), eσ29, zq_up_ne (by omega), eσ27, zq_cell_at]; rfl
    by_cases s5 : x = (a : Int) + 5
    · rw [s5, zc_Ie9 (zc_p4_5 ka), eσ36, zq_up_ne (by omega), eσ34, zq_cell_at]; rfl
    exfalso; omega
  · intro x i h
    rw [eσ36, zq_up_ne (by omega), eσ34, zq_cell_no (by omega), eσ29, zq_up_ne (by omega), eσ27, zq_cell_no (by omega), eσ22, zq_up_ne (by omega), eσ20, zq_cell_no (by omega), eσ15, zq_up_ne (by omega), eσ13, zq_cell_no (by omega), eσ8, zq_up_ne (by omega), eσ6, zq_cell_no (by omega)]
set_option maxHeartbeats 1600000 in
theorem c_X9_init_3 {σ : zq_S} (q0 : ∀ i, σ 3 i = zq_df 9 i) : zq_C zc_w yX9_init cX9_init 2 (none) 2 40 4 132 [ZR 3] σ (zq_pv (fun τ => (∀ x i, 3 ≤ x → x ≤ 131 → τ x i = zc_I x i) ∧ (∀ x i, x < 3 ∨ 131 < x → τ x i = σ x i))) := by
  refine zq_C_of (by decide) (by decide) (Nat.le_of_ble_eq_true rfl) [some (ZR 3), none] rfl (fun V hV => ?_)
  refine zr_aload_n (pc := 0) hV dX9_init_0 rfl rfl ?_
  refine zr_objInit (pc := 1) hV dX9_init_1 lo9 lo_i lo_c (by decide) (by decide) ?_
  refine zr_aload_n (pc := 4) hV dX9_init_4 rfl rfl ?_
  refine zr_new (pc := 5) hV (ci := 3) dX9_init_5 rfl zq_tbX3 tyX3_ok ct3 cX9_9 ci3 cn3 (zc_k4 (rfl : zc_kd 4 = 4)) (by decide) (fun σ5 eσ5 => ?_)
  have eσ5 : σ5 = zq_cell σ 4 (zq_df 3) := eσ5
  show V 8 [some (ZR 3), none] [ZR 4, ZR 3] 5 σ5
  refine zr_dup (pc := 8) hV dX9_init_8 (fun _ => rfl) ?_
  refine zr_callN (pc := 9) hV [] (st := [ZR 4, ZR 3]) (c_X3_init 4 rfl (fun i => by rw [eσ5]; exact zq_cell_at _ _ _ _)) dX9_init_9 iX9_11 (by decide) (Nat.le_of_ble_eq_true rfl) (by decide) (fun σ9 qσ9 => ?_)
  obtain ⟨hσ9, fσ9⟩ := qσ9
  have hσ9 : ∀ x i : Int, 4 ≤ x → x ≤ 9 → σ9 x i = zc_I x i := hσ9
  have fσ9 : ∀ x i : Int, x < 4 ∨ 9 < x → σ9 x i = σ5 x i := fσ9
  show V 12 [some (ZR 3), none] [ZR 4, ZR 3] 10 σ9
  refine zr_putR (pc := 12) hV 5 dX9_init_12 fX9_12 rfl (Or.inl rfl) rfl (by decide) (zc_k3 zc_s3) ⟨by decide, by decide⟩ (fun σ12 eσ12 => ?_)
  refine zr_aload_n (pc := 15) hV dX9_init_15 rfl rfl ?_
  refine zr_bipush (pc := 16) hV 20 dX9_init_16 (by decide) ?_
  refine zr_anew (pc := 18) hV 20 dX9_init_18 rfl rfl cX9_9 (zc_k10 (rfl : zc_kd 10 = 10)) (by decide) (fun σ18 eσ18 => ?_)
  have eσ18 : σ18 = zq_cell σ12 10 (fun _ => -1) := eσ18
  show V 21 [some (ZR 3), none] [ZR 10, ZR 3] 11 σ18
  refine zr_putR (pc := 21) hV 6 dX9_init_21 fX9_18 rfl (Or.inr ⟨rfl, rfl⟩) rfl (by decide) (zc_k3 zc_s3) ⟨by decide, by decide⟩ (fun σ21 eσ21 => ?_)
  refine zr_aload_n (pc := 24) hV dX9_init_24 rfl rfl ?_
  refine zr_sipush (pc := 25) hV 4096 dX9_init_25 (by decide) ?_
  refine zr_newa (pc := 28) hV 4096 dX9_init_28 rfl rfl carr (zc_k11 (rfl : zc_kd 11 = 11)) (by decide) (fun σ28 eσ28 => ?_)
  have eσ28 : σ28 = zq_cell σ21 11 (fun _ => 0) := eσ28
  show V 30 [some (ZR 3), none] [ZR 11, ZR 3] 12 σ28
  refine zr_putR (pc := 30) hV 7 dX9_init_30 fX9_22 rfl (Or.inr ⟨rfl, rfl⟩) rfl (by decide) (zc_k3 zc_s3) ⟨by decide, by decide⟩ (fun σ30 eσ30 => ?_)
  refine zr_iconst (pc := 33) hV 0 dX9_init_33 rfl ?_
  refine zr_istore_n (pc := 34) hV [some (ZR 3), some (ZI 0)] dX9_init_34 rfl (by decide) rfl rfl ?_
  have L35 : ∀ (fuel m : Nat) (ρ : zq_S), m ≤ 20 → (∀ x i : Int, 3 ≤ x → x < 12 + 6 * (m : Int) → x ≠ 10 → ρ x i = zc_I x i) → (∀ i : Int, ρ 10 i = if 0 ≤ i ∧ i < (m : Int) then 12 + 6 * i else -1) → (∀ x i : Int, x < 3 ∨ 12 + 6 * (m : Int) ≤ x → ρ x i = σ x i) → 20 - m < fuel → V 35 [some (ZR 3), some (ZI (m : Int))] [] (12 + 6 * m) ρ := by
    intro fuel
    induction fuel with
    | zero => intro m ρ _ _ _ _ hm; exfalso; omega
    | succ fuel ih =>
      intro m ρ hm0 h1 h2 h3 hm
      refine zr_iload_n (pc := 35) hV dX9_init_35 rfl rfl ?_
      refine zr_bipush (pc := 36) hV 20 dX9_init_36 (by decide) ?_
      refine zr_icmp_ge (pc := 38) hV 60 dX9_init_38 (by decide) (by omega) ⟨by decide, by decide⟩ (fun c => ?_) (fun c => ?_)
      · have hm20 : m = 20 := by omega
        subst hm20
        refine zr_vret (pc := 60) hV dX9_init_60 rfl rfl ⟨rfl, fun x i g1 g2 => ?_, fun x i g => h3 x i (by omega)⟩
        by_cases hx : x = 10
        · rw [hx, h2, zc_Ie10 (rfl : zc_kd 10 = 10)]
          rfl
        · exact h1 x i g1 (by omega) hx
      · have hm1 : m < 20 := by omega
        have ko := zc_ord hm1
        have ek : ((12 + 6 * m : Nat) : Int) = 12 + 6 * (m : Int) := by omega
        have i7 : ∀ i : Int, ρ 3 6 = 10 := fun _ => by rw [h1 3 6 (by omega) (by omega) (by omega), zc_Ie3 (rfl : zc_kd 3 = 3)]; rfl
        refine zr_aload_n (pc := 41) hV dX9_init_41 rfl rfl ?_
        refine zr_getR (pc := 42) hV 6 10 dX9_init_42 fX9_18 rfl rfl (zc_k3 zc_s3) (by omega) (i7 0) (by decide) ?_
        refine zr_iload_n (pc := 45) hV dX9_init_45 rfl rfl ?_
        refine zr_new (pc := 46) hV (ci := 3) dX9_init_46 rfl zq_tbX3 tyX3_ok ct3 cX9_9 ci3 cn3 (zc_k4 ko) (by omega) (fun ρ1 e1 => ?_)
        refine zr_dup (pc := 49) hV dX9_init_49 (fun _ => rfl) ?_
        refine zr_callN (pc := 50) hV [] (st := [ZR ((12 + 6 * m : Nat) : Int), ZI (m : Int), ZR 10]) (c_X3_init (12 + 6 * m) ko (fun i => by rw [e1]; exact zq_cell_at _ _ _ _)) dX9_init_50 iX9_11 (by decide) (Nat.le_of_ble_eq_true rfl) (by omega) (fun ρ2 q2 => ?_)
        obtain ⟨g2, f2⟩ := q2
        refine zr_aast (pc := 53) hV dX9_init_53 (zc_k10 (rfl : zc_kd 10 = 10)) (zc_k4 ko) (by omega) (by omega) rfl (by omega) (fun ρ3 e3 => ?_)
        refine zr_iinc (pc := 54) hV [some (ZR 3), some (ZI ((m : Int) + 1))] ((m : Int) + 1) dX9_init_54 rfl rfl (by decide) rfl rfl ?_
        refine zr_goto (pc := 57) hV 35 dX9_init_57 (by decide) ?_
        have e12 : 12 + 6 * m + 6 = 12 + 6 * (m + 1) := by omega
        rw [e12]
        refine ih (m + 1) ρ3 (by omega) (fun x i g3 g4 g5 => ?_) (fun i => ?_) (fun x i g3 => ?_) (by omega)
        · rw [e3, zq_up_ne (by omega)]
          by_cases hx : 12 + 6 * (m : Int) ≤ x
          · exact g2 x i (by omega) (by omega)
          · rw [f2 x i (by omega), e1, zq_cell_no (by omega)]
            exact h1 x i g3 (by omega) g5
        · by_cases hi : i = (m : Int)
          · rw [hi, e3, zq_up_same, if_pos (by omega)]
            omega
          · rw [e3, zq_up_ne (fun q => hi q.2), f2 10 i (by omega), e1, zq_cell_no (by omega), h2]
            by_cases hc : 0 ≤ i ∧ i < (m : Int)
            · rw [if_pos hc, if_pos (by omega)]
            · rw [if_neg hc, if_neg (by omega)]
        · rw [e3, zq_up_ne (by omega), f2 x i (by omega), e1, zq_cell_no (by omega)]
          exact h3 x i (by omega)
  refine L35 21 0 σ30 (by omega) (fun x i g1 g2 g3 => ?_) (fun i => ?_) (fun x i g => ?_) (by omega)
  · by_cases s3 : x = 3
    · rw [s3, zc_Ie3 (rfl : zc_kd 3 = 3)]
      unfold zc_I3
      by_cases j5 : i = 5
      · rw [if_pos j5, j5, eσ30, zq_up_ne (by omega), eσ28, zq_cell_no (by omega), eσ21, zq_up_ne (by omega), eσ18, zq_cell_no (by omega), eσ12, zq_up_same]
      rw [if_neg j5]
      by_cases j6 : i = 6
      · rw [if_pos j6, j6, eσ30, zq_up_ne (by omega), eσ28, zq_cell_no (by omega), eσ21, zq_up_same]
      rw [if_neg j6]
      by_cases j7 : i = 7
      · rw [if_pos j7, j7, eσ30, zq_up_same]
      rw [if_neg j7, eσ30, zq_up_ne (by omega), eσ28, zq_cell_no (by omega), eσ21, zq_up_ne (by omega), eσ18, zq_cell_no (by omega), eσ12, zq_up_ne (by omega), fσ9 _ _ (by omega), eσ5, zq_cell_no (by omega)]
      exact q0 i
    by_cases s4 : x ≤ 9
    · rw [eσ30, zq_up_ne (by omega), eσ28, zq_cell_no (by omega), eσ21, zq_up_ne (by omega), eσ18, zq_cell_no (by omega), eσ12, zq_up_ne (by omega)]
      exact hσ9 x i (by omega) s4
    rw [show x = 11 by omega, zc_Ie11 (rfl : zc_kd 11 = 11), eσ30, zq_up_ne (by omega), eσ28, zq_cell_at]
    rfl
  · rw [eσ30, zq_up_ne (by omega), eσ28, zq_cell_no (by omega), eσ21, zq_up_ne (by omega), eσ18, zq_cell_at, if_neg (by omega)]
  · rw [eσ30, zq_up_ne (by omega), eσ28, zq_cell_no (by omega), eσ21, zq_up_ne (by omega), eσ18, zq_cell_no (by omega), eσ12, zq_up_ne (by omega), fσ9 _ _ (by omega), eσ5, zq_cell_no (by omega)]
