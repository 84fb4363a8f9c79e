set_option maxHeartbeats 800000 in
theorem c_X7_root {σ : zq_S} (hσ : zc_T σ) (this : Int) (kthis : zc_kd this = 256)  : zq_C zc_w yX7_root cX7_root 1 (some .int) 0 0 284 284 [ZR this] σ (zq_pp σ (fun r => ((-1) ≤ r ∧ r ≤ 38) ∧ r = σ this 5 - 1)) := by
  refine zq_C_of (by decide) (Nat.le_refl _) (Nat.le_of_ble_eq_true rfl) [some (ZR this)] rfl (fun V hV => ?_)
  have pothis := zc_pos kthis rfl
  show V 0 [some (ZR this)] [] 284 σ
  refine zr_aload_n (pc := 0) hV dX7_root_0 rfl rfl ?_
  refine zr_getI (pc := 1) hV 5 dX7_root_1 fX7_31 rfl rfl (zc_k256 kthis) (zc_pos kthis rfl) ?_
  have t1 := zc_g256_5 hσ kthis
  refine zr_iconst (pc := 4) hV 1 dX7_root_4 rfl ?_
  refine zr_isub (pc := 5) hV dX7_root_5 ?_
  exact zr_iret (pc := 6) hV dX7_root_6 rfl rfl ⟨rfl, _, rfl, (by omega), (by omega)⟩
set_option maxHeartbeats 800000 in
theorem c_X7_isVariable {σ : zq_S} (hσ : zc_T σ) (this : Int) (kthis : zc_kd this = 256) (node : Int) (q0 : 0 ≤ node ∧ node ≤ 38) : zq_C zc_w yX7_isVariable cX7_isVariable 2 (some .boolean) 0 0 284 284 [ZR this, ZI node] σ (zq_pp σ (fun r => (0 ≤ r ∧ r ≤ 1))) := by
  refine zq_C_of (by decide) (Nat.le_refl _) (Nat.le_of_ble_eq_true rfl) [some (ZR this), some (ZI node)] rfl (fun V hV => ?_)
  have pothis := zc_pos kthis rfl
  show V 0 [some (ZR this), some (ZI node)] [] 284 σ
  refine zr_aload_n (pc := 0) hV dX7_isVariable_0 rfl rfl ?_
  refine zr_getR (pc := 1) hV 0 (this + 1) dX7_isVariable_1 fX7_9 rfl rfl (zc_k256 kthis) (zc_pos kthis rfl) (zc_g256_0 hσ kthis) (zc_pos (zc_p256_1 kthis) rfl).1 ?_
  refine zr_iload_n (pc := 4) hV dX7_isVariable_4 rfl rfl ?_
  refine zr_iald (pc := 5) hV dX7_isVariable_5 (zc_k257 (zc_p256_1 kthis)) (zc_pos (zc_p256_1 kthis) rfl) rfl (by omega) ?_
  have t1 := zc_ga257 hσ (zc_p256_1 kthis) node
  refine zr_iconst (pc := 6) hV 1 dX7_isVariable_6 rfl ?_
  refine zr_icmp_ne (pc := 7) hV 14 dX7_isVariable_7 (by decide) (by omega) ⟨by decide, by decide⟩ (fun c2 => ?_) (fun c2 => ?_)
  · show V 14 [some (ZR this), some (ZI node)] [] 284 σ
    refine zr_iconst (pc := 14) hV 0 dX7_isVariable_14 rfl ?_
    show V 15 [some (ZR this), some (ZI node)] [ZI 0] 284 σ
    exact zr_zret (pc := 15) hV dX7_isVariable_15 rfl rfl (by omega) ⟨rfl, _, rfl, ⟨by decide, by decide⟩, (by omega)⟩
  · show V 10 [some (ZR this), some (ZI node)] [] 284 σ
    refine zr_iconst (pc := 10) hV 1 dX7_isVariable_10 rfl ?_
    refine zr_goto (pc := 11) hV 15 dX7_isVariable_11 (by decide) ?_
    show V 15 [some (ZR this), some (ZI node)] [ZI 1] 284 σ
    exact zr_zret (pc := 15) hV dX7_isVariable_15 rfl rfl (by omega) ⟨rfl, _, rfl, ⟨by decide, by decide⟩, (by omega)⟩
set_option maxHeartbeats 800000 in
theorem c_X7_isLiteral {σ : zq_S} (hσ : zc_T σ) (this : Int) (kthis : zc_kd this = 256) (node : Int) (q0 : 0 ≤ node ∧ node ≤ 38) : zq_C zc_w yX7_isLiteral cX7_isLiteral 2 (some .boolean) 0 0 284 284 [ZR this, ZI node] σ (zq_pp σ (fun r => (0 ≤ r ∧ r ≤ 1))) := by
  refine zq_C_of (by decide) (Nat.le_refl _) (Nat.le_of_ble_eq_true rfl) [some (ZR this), some (ZI node)] rfl (fun V hV => ?_)
  have pothis := zc_pos kthis rfl
  show V 0 [some (ZR this), some (ZI node)] [] 284 σ
  refine zr_aload_n (pc := 0) hV dX7_isLiteral_0 rfl rfl ?_
  refine zr_getR (pc := 1) hV 0 (this + 1) dX7_isLiteral_1 fX7_9 rfl rfl (zc_k256 kthis) (zc_pos kthis rfl) (zc_g256_0 hσ kthis) (zc_pos (zc_p256_1 kthis) rfl).1 ?_
  refine zr_iload_n (pc := 4) hV dX7_isLiteral_4 rfl rfl ?_
  refine zr_iald (pc := 5) hV dX7_isLiteral_5 (zc_k257 (zc_p256_1 kthis)) (zc_pos (zc_p256_1 kthis) rfl) rfl (by omega) ?_
  have t1 := zc_ga257 hσ (zc_p256_1 kthis) node
  refine zr_iconst (pc := 6) hV 2 dX7_isLiteral_6 rfl ?_
  refine zr_icmp_ne (pc := 7) hV 14 dX7_isLiteral_7 (by decide) (by omega) ⟨by decide, by decide⟩ (fun c2 => ?_) (fun c2 => ?_)
  · show V 14 [some (ZR this), some (ZI node)] [] 284 σ
    refine zr_iconst (pc := 14) hV 0 dX7_isLiteral_14 rfl ?_
    show V 15 [some (ZR this), some (ZI node)] [ZI 0] 284 σ
    exact zr_zret (pc := 15) hV dX7_isLiteral_15 rfl rfl (by omega) ⟨rfl, _, rfl, ⟨by decide, by decide⟩, (by omega)⟩
  · show V 10 [some (ZR this), some (ZI node)] [] 284 σ
    refine zr_iconst (pc := 10) hV 1 dX7_isLiteral_10 rfl ?_
    refine zr_goto (pc := 11) hV 15 dX7_isLiteral_11 (by decide) ?_
    show V 15 [some (ZR this), some (ZI node)] [ZI 1] 284 σ
    exact zr_zret (pc := 15) hV dX7_isLiteral_15 rfl rfl (by omega) ⟨rfl, _, rfl, ⟨by decide, by decide⟩, (by omega)⟩
set_option maxHeartbeats 800000 in
theorem c_X7_addNode {σ : zq_S} (hσ : zc_T σ) (this : Int) (kthis : zc_kd this = 256) (kind : Int) (word : Int) (left : Int) (right : Int) (q0 : zq_in kind) (q1 : zq_in word) (q2 : 0 ≤ left ∧ left ≤ 38) (q3 : 0 ≤ right ∧ right ≤ 38) : zq_C zc_w yX7_addNode cX7_addNode 5 (some .int) 0 0 284 284 [ZR this, ZI kind, ZI word, ZI left, ZI right] σ (zq_pi (fun r τ => zc_T τ ∧ zc_Fr [(256, 5), (257, -1), (258, -1), (259, -1), (260, -1)] σ τ ∧ zc_Own this σ τ ∧ ((0 ≤ r ∧ r ≤ 38) ∧ 1 ≤ τ this 5 ∧ σ this 5 ≤ τ this 5))) := by
  refine zq_C_of (by decide) (Nat.le_refl _) (Nat.le_of_ble_eq_true rfl) [some (ZR this), some (ZI kind), some (ZI word), some (ZI left), some (ZI right)] rfl (fun V hV => ?_)
  have pothis := zc_pos kthis rfl
  have hFσ := zc_Fr_rf [(256, 5), (257, -1), (258, -1), (259, -1), (260, -1)] σ
  have hOσ := zc_Own_rf this σ
  show V 0 [some (ZR this), some (ZI kind), some (ZI word), some (ZI left), some (ZI right)] [] 284 σ
  refine zr_aload_n (pc := 0) hV dX7_addNode_0 rfl rfl ?_
  refine zr_getI (pc := 1) hV 5 dX7_addNode_1 fX7_31 rfl rfl (zc_k256 kthis) (zc_pos kthis rfl) ?_
  have t1 := zc_g256_5 hσ kthis
  refine zr_bipush (pc := 4) hV 39 dX7_addNode_4 (by decide) ?_
  refine zr_icmp_lt (pc := 6) hV 16 dX7_addNode_6 (by decide) (by omega) ⟨by decide, by decide⟩ (fun c2 => ?_) (fun c2 => ?_)
  · show V 16 [some (ZR this), some (ZI kind), some (ZI word), some (ZI left), some (ZI right)] [] 284 σ
    refine zr_aload_n (pc := 16) hV dX7_addNode_16 rfl rfl ?_
    refine zr_getR (pc := 17) hV 0 (this + 1) dX7_addNode_17 fX7_9 rfl rfl (zc_k256 kthis) (zc_pos kthis rfl) (zc_g256_0 hσ kthis) (zc_pos (zc_p256_1 kthis) rfl).1 ?_
    refine zr_aload_n (pc := 20) hV dX7_addNode_20 rfl rfl ?_
    refine zr_getI (pc := 21) hV 5 dX7_addNode_21 fX7_31 rfl rfl (zc_k256 kthis) (zc_pos kthis rfl) ?_
    have t3 := zc_g256_5 hσ kthis
    refine zr_iload_n (pc := 24) hV dX7_addNode_24 rfl rfl ?_
    refine zr_iast (pc := 25) hV dX7_addNode_25 (zc_k257 (zc_p256_1 kthis)) (zc_pos (zc_p256_1 kthis) rfl) rfl (by omega) (fun σ25 eσ25 => ?_)
    have hσ25 : zc_T σ25 := zc_ua257 eσ25 hσ (zc_p256_1 kthis) (by omega)
    have hFσ25 := zc_Fa eσ25 (zc_p256_1 kthis) rfl hFσ
    have hOσ25 := zc_Ow eσ25 (by omega) hOσ
    refine zr_aload_n (pc := 26) hV dX7_addNode_26 rfl rfl ?_
    refine zr_getR (pc := 27) hV 1 (this + 2) dX7_addNode_27 fX7_13 rfl rfl (zc_k256 kthis) (zc_pos kthis rfl) (zc_g256_1 hσ25 kthis) (zc_pos (zc_p256_2 kthis) rfl).1 ?_
    refine zr_aload_n (pc := 30) hV dX7_addNode_30 rfl rfl ?_
    refine zr_getI (pc := 31) hV 5 dX7_addNode_31 fX7_31 rfl rfl (zc_k256 kthis) (zc_pos kthis rfl) ?_
    have t4 := zc_g256_5 hσ25 kthis
    have t5 : σ25 this 5 = σ this 5 := by rw [eσ25]; exact zq_up_ne (zc_dk kthis (zc_p256_1 kthis) rfl)
    refine zr_iload_n (pc := 34) hV dX7_addNode_34 rfl rfl ?_
    refine zr_iast (pc := 35) hV dX7_addNode_35 (zc_k258 (zc_p256_2 kthis)) (zc_pos (zc_p256_2 kthis) rfl) rfl (by omega) (fun σ35 eσ35 => ?_)
    have hσ35 : zc_T σ35 := zc_ua258 eσ35 hσ25 (zc_p256_2 kthis) (by omega)
    have hFσ35 := zc_Fa eσ35 (zc_p256_2 kthis) rfl hFσ25
    have hOσ35 := zc_Ow eσ35 (by omega) hOσ25
    refine zr_aload_n (pc := 36) hV dX7_addNode_36 rfl rfl ?_
    refine zr_getR (pc := 37) hV 2 (this + 3) dX7_addNode_37 fX7_16 rfl rfl (zc_k256 kthis) (zc_pos kthis rfl) (zc_g256_2 hσ35 kthis) (zc_pos (zc_p256_3 kthis) rfl).1 ?_
    refine zr_aload_n (pc := 40) hV dX7_addNode_40 rfl rfl ?_
    refine zr_getI (pc := 41) hV 5 dX7_addNode_41 fX7_31 rfl rfl (zc_k256 kthis) (zc_pos kthis rfl) ?_
    have t6 := zc_g256_5 hσ35 kthis
    have t7 : σ35 this 5 = σ25 this 5 := by rw [eσ35]; exact zq_up_ne (zc_dk kthis (zc_p256_2 kthis) rfl)
    have t8 : σ25 this 5 = σ this 5 := by rw [eσ25]; exact zq_up_ne (zc_dk kthis (zc_p256_1 kthis) rfl)
    refine zr_iload_n (pc := 44) hV dX7_addNode_44 rfl rfl ?_
    refine zr_iast (pc := 45) hV dX7_addNode_45 (zc_k259 (zc_p256_3 kthis)) (zc_pos (zc_p256_3 kthis) rfl) rfl (by omega) (fun σ45 eσ45 => ?_)
    have hσ45 : zc_T σ45 := zc_ua259 eσ45 hσ35 (zc_p256_3 kthis) (by omega)
    have hFσ45 := zc_Fa eσ45 (zc_p256_3 kthis) rfl hFσ35
    have hOσ45 := zc_Ow eσ45 (by omega) hOσ35
    refine zr_aload_n (pc := 46) hV dX7_addNode_46 rfl rfl ?_
    refine zr_getR (pc := 47) hV 3 (this + 4) dX7_addNode_47 fX7_19 rfl rfl (zc_k256 kthis) (zc_pos kthis rfl) (zc_g256_3 hσ45 kthis) (zc_pos (zc_p256_4 kthis) rfl).1 ?_
    refine zr_aload_n (pc := 50) hV dX7_addNode_50 rfl rfl ?_
    refine zr_getI (pc := 51) hV 5 dX7_addNode_51 fX7_31 rfl rfl (zc_k256 kthis) (zc_pos kthis rfl) ?_
    have t9 := zc_g256_5 hσ45 kthis
    have t10 : σ45 this 5 = σ35 this 5 := by rw [eσ45]; exact zq_up_ne (zc_dk kthis (zc_p256_3 kthis) rfl)
    have t11 : σ35 this 5 = σ25 this 5 := by rw [eσ35]; exact zq_up_ne (zc_dk kthis (zc_p256_2 kthis) rfl)
    have t12 : σ25 this 5 = σ this 5 := by rw [eσ25]; exact zq_up_ne (zc_dk kthis (zc_p256_1 kthis) rfl)
    refine zr_iload (pc := 54) hV dX7_addNode_54 rfl ?_
    refine zr_iast (pc := 56) hV dX7_addNode_56 (zc_k260 (zc_p256_4 kthis)) (zc_pos (zc_p256_4 kthis) rfl) rfl (by omega) (fun σ56 eσ56 => ?_)
    have hσ56 : zc_T σ56 := zc_ua260 eσ56 hσ45 (zc_p256_4 kthis) (by omega)
    have hFσ56 := zc_Fa eσ56 (zc_p256_4 kthis) rfl hFσ45
    have hOσ56 := zc_Ow eσ56 (by omega) hOσ45
    refine zr_aload_n (pc := 57) hV dX7_addNode_57 rfl rfl ?_
    refine zr_dup (pc := 58) hV dX7_addNode_58 (fun _ => rfl) ?_
    refine zr_getI (pc := 59) hV 5 dX7_addNode_59 fX7_31 rfl rfl (zc_k256 kthis) (zc_pos kthis rfl) ?_
    have t13 := zc_g256_5 hσ56 kthis
    have t14 : σ56 this 5 = σ45 this 5 := by rw [eσ56]; exact zq_up_ne (zc_dk kthis (zc_p256_4 kthis) rfl)
    have t15 : σ45 this 5 = σ35 this 5 := by rw [eσ45]; exact zq_up_ne (zc_dk kthis (zc_p256_3 kthis) rfl)
    have t16 : σ35 this 5 = σ25 this 5 := by rw [eσ35]; exact zq_up_ne (zc_dk kthis (zc_p256_2 kthis) rfl)
    have t17 : σ25 this 5 = σ this 5 := by rw [eσ25]; exact zq_up_ne (zc_dk kthis (zc_p256_1 kthis) rfl)
    refine zr_iconst (pc := 62) hV 1 dX7_addNode_62 rfl ?_
    refine zr_iadd (pc := 63) hV dX7_addNode_63 ?_
    refine zr_putI (pc := 64) hV 5 dX7_addNode_64 fX7_31 rfl rfl rfl (zc_k256 kthis) (zc_pos kthis rfl) (fun σ64 eσ64 => ?_)
    have hσ64 : zc_T σ64 := zc_u256_5 eσ64 hσ56 kthis (by omega)
    have hFσ64 := zc_Fw eσ64 kthis rfl hFσ56
    have hOσ64 := zc_Ow eσ64 (by omega) hOσ56
    refine zr_aload_n (pc := 67) hV dX7_addNode_67 rfl rfl ?_
    refine zr_getI (pc := 68) hV 5 dX7_addNode_68 fX7_31 rfl rfl (zc_k256 kthis) (zc_pos kthis rfl) ?_
    have t18 := zc_g256_5 hσ64 kthis
    have t19 : σ64 this 5 = (σ56 this 5) + 1 := by rw [eσ64]; exact zq_up_same _ _ _ _
    refine zr_iconst (pc := 71) hV 1 dX7_addNode_71 rfl ?_
    refine zr_isub (pc := 72) hV dX7_addNode_72 ?_
    have t20 := zc_g256_5 hσ64 kthis
    have t21 : σ64 this 5 = (σ56 this 5) + 1 := by rw [eσ64]; exact zq_up_same _ _ _ _
    exact zr_iret (pc := 73) hV dX7_addNode_73 rfl rfl ⟨_, rfl, (by omega), hσ64, hFσ64, hOσ64, (by omega)⟩
  · show V 9 [some (ZR this), some (ZI kind), some (ZI word), some (ZI left), some (ZI right)] [] 284 σ
    refine zr_aload_n (pc := 9) hV dX7_addNode_9 rfl rfl ?_
    refine zr_getI (pc := 10) hV 5 dX7_addNode_10 fX7_31 rfl rfl (zc_k256 kthis) (zc_pos kthis rfl) ?_
    have t22 := zc_g256_5 hσ kthis
    refine zr_iconst (pc := 13) hV 1 dX7_addNode_13 rfl ?_
    refine zr_isub (pc := 14) hV dX7_addNode_14 ?_
    have t23 := zc_g256_5 hσ kthis
    exact zr_iret (pc := 15) hV dX7_addNode_15 rfl rfl ⟨_, rfl, (by omega), hσ, hFσ, hOσ, (by omega)⟩
set_option maxHeartbeats 800000 in
theorem c_X7_hang {σ : zq_S} (hσ : zc_T σ) (this : Int) (kthis : zc_kd this = 256) (node : Int) (q0 : 0 ≤ node ∧ node ≤ 38) : zq_C zc_w yX7_hang cX7_hang 2 (none) 1 24 284 284 [ZR this, ZI node] σ (zq_pv (fun τ => zc_T τ ∧ zc_Fr [(256, 5), (257, -1), (258, -1), (259, -1), (260, -1), (262, -1)] σ τ ∧ zc_Own this σ τ ∧ (σ this 5 ≤ τ this 5))) := by
  refine zq_C_of (by decide) (Nat.le_refl _) (Nat.le_of_ble_eq_true rfl) [some (ZR this), some (ZI node)] rfl (fun V hV => ?_)
  have pothis := zc_pos kthis rfl
  have hFσ := zc_Fr_rf [(256, 5), (257, -1), (258, -1), (259, -1), (260, -1), (262, -1)] σ
  have hOσ := zc_Own_rf this σ
  show V 0 [some (ZR this), some (ZI node)] [] 284 σ
  refine zr_aload_n (pc := 0) hV dX7_hang_0 rfl rfl ?_
  refine zr_getR (pc := 1) hV 8 (this + 7) dX7_hang_1 fX7_28 rfl rfl (zc_k256 kthis) (zc_pos kthis rfl) (zc_g256_8 hσ kthis) (zc_pos (zc_p256_7 kthis) rfl).1 ?_
  refine zr_aload_n (pc := 4) hV dX7_hang_4 rfl rfl ?_
  refine zr_getI (pc := 5) hV 9 dX7_hang_5 fX7_38 rfl rfl (zc_k256 kthis) (zc_pos kthis rfl) ?_
  have t1 := zc_g256_9 hσ kthis
  refine zr_iald (pc := 8) hV dX7_hang_8 (zc_k263 (zc_p256_7 kthis)) (zc_pos (zc_p256_7 kthis) rfl) rfl (by omega) ?_
  have t2 := zc_ga263 hσ (zc_p256_7 kthis) (σ this 9)
  refine zr_if_ne (pc := 9) hV 23 dX7_hang_9 (by decide) (by omega) (fun c3 => ?_) (fun c3 => ?_)
  · show V 23 [some (ZR this), some (ZI node)] [] 284 σ
    refine zr_aload_n (pc := 23) hV dX7_hang_23 rfl rfl ?_
    refine zr_getR (pc := 24) hV 7 (this + 6) dX7_hang_24 fX7_25 rfl rfl (zc_k256 kthis) (zc_pos kthis rfl) (zc_g256_7 hσ kthis) (zc_pos (zc_p256_6 kthis) rfl).1 ?_
    refine zr_aload_n (pc := 27) hV dX7_hang_27 rfl rfl ?_
    refine zr_getI (pc := 28) hV 9 dX7_hang_28 fX7_38 rfl rfl (zc_k256 kthis) (zc_pos kthis rfl) ?_
    have t4 := zc_g256_9 hσ kthis
    refine zr_aload_n (pc := 31) hV dX7_hang_31 rfl rfl ?_
    refine zr_aload_n (pc := 32) hV dX7_hang_32 rfl rfl ?_
    refine zr_getR (pc := 33) hV 8 (this + 7) dX7_hang_33 fX7_28 rfl rfl (zc_k256 kthis) (zc_pos kthis rfl) (zc_g256_8 hσ kthis) (zc_pos (zc_p256_7 kthis) rfl).1 ?_
    refine zr_aload_n (pc := 36) hV dX7_hang_36 rfl rfl ?_
    refine zr_getI (pc := 37) hV 9 dX7_hang_37 fX7_38 rfl rfl (zc_k256 kthis) (zc_pos kthis rfl) ?_
    have t5 := zc_g256_9 hσ kthis
    refine zr_iald (pc := 40) hV dX7_hang_40 (zc_k263 (zc_p256_7 kthis)) (zc_pos (zc_p256_7 kthis) rfl) rfl (by omega) ?_
    have t6 := zc_ga263 hσ (zc_p256_7 kthis) (σ this 9)
    refine zr_iconst (pc := 41) hV 0 dX7_hang_41 rfl ?_
    refine zr_aload_n (pc := 42) hV dX7_hang_42 rfl rfl ?_
    refine zr_getR (pc := 43) hV 7 (this + 6) dX7_hang_43 fX7_25 rfl rfl (zc_k256 kthis) (zc_pos kthis rfl) (zc_g256_7 hσ kthis) (zc_pos (zc_p256_6 kthis) rfl).1 ?_
    refine zr_aload_n (pc := 46) hV dX7_hang_46 rfl rfl ?_
    refine zr_getI (pc := 47) hV 9 dX7_hang_47 fX7_38 rfl rfl (zc_k256 kthis) (zc_pos kthis rfl) ?_
    have t7 := zc_g256_9 hσ kthis
    refine zr_iald (pc := 50) hV dX7_hang_50 (zc_k262 (zc_p256_6 kthis)) (zc_pos (zc_p256_6 kthis) rfl) rfl (by omega) ?_
    have t8 := zc_ga262 hσ (zc_p256_6 kthis) (σ this 9)
    refine zr_iload_n (pc := 51) hV dX7_hang_51 rfl rfl ?_
    have t9 := zc_g256_9 hσ kthis
    have t10 := zc_g256_9 hσ kthis
    refine zr_callVi (pc := 52) hV [ZI (σ (this + 7) (σ this 9)), ZI 0, ZI (σ (this + 6) (σ this 9)), ZI node] (st := [ZI (σ this 9), ZR (this + 6)]) (c_X7_addNode (σ := σ) hσ this kthis (σ (this + 7) (σ this 9)) 0 (σ (this + 6) (σ this 9)) node (by omega) (by omega) (by omega) (by omega)) dX7_hang_52 mX7_76 (zc_k256 kthis) (zc_pos kthis rfl) (by decide) (Nat.le_of_ble_eq_true rfl) (Nat.le_refl _) (fun r52 σ52 hr52 pσ52 => ?_)
    obtain ⟨hσ52, hfσ52, hoσ52, pσ52⟩ := pσ52
    have hFσ52 := zc_Fc hfσ52 rfl hFσ
    have hOσ52 := zc_Oo hoσ52 hOσ
    have t11 := zc_g256_5 hσ kthis
    have t12 := zc_g256_5 hσ52 kthis
    refine zr_iast (pc := 55) hV dX7_hang_55 (zc_k262 (zc_p256_6 kthis)) (zc_pos (zc_p256_6 kthis) rfl) rfl (by omega) (fun σ55 eσ55 => ?_)
    have hσ55 : zc_T σ55 := zc_ua262 eσ55 hσ52 (zc_p256_6 kthis) (by omega)
    have hFσ55 := zc_Fa eσ55 (zc_p256_6 kthis) rfl hFσ52
    have hOσ55 := zc_Ow eσ55 (by omega) hOσ52
    have t13 := zc_g256_5 hσ55 kthis
    have t14 : σ55 this 5 = σ52 this 5 := by rw [eσ55]; exact zq_up_ne (zc_dk kthis (zc_p256_6 kthis) rfl)
    exact zr_vret (pc := 56) hV dX7_hang_56 rfl rfl ⟨rfl, hσ55, hFσ55, hOσ55, (by omega)⟩
  · show V 12 [some (ZR this), some (ZI node)] [] 284 σ
    refine zr_aload_n (pc := 12) hV dX7_hang_12 rfl rfl ?_
    refine zr_getR (pc := 13) hV 7 (this + 6) dX7_hang_13 fX7_25 rfl rfl (zc_k256 kthis) (zc_pos kthis rfl) (zc_g256_7 hσ kthis) (zc_pos (zc_p256_6 kthis) rfl).1 ?_
    refine zr_aload_n (pc := 16) hV dX7_hang_16 rfl rfl ?_
    refine zr_getI (pc := 17) hV 9 dX7_hang_17 fX7_38 rfl rfl (zc_k256 kthis) (zc_pos kthis rfl) ?_
    have t15 := zc_g256_9 hσ kthis
    refine zr_iload_n (pc := 20) hV dX7_hang_20 rfl rfl ?_
    refine zr_iast (pc := 21) hV dX7_hang_21 (zc_k262 (zc_p256_6 kthis)) (zc_pos (zc_p256_6 kthis) rfl) rfl (by omega) (fun σ21 eσ21 => ?_)
    have hσ21 : zc_T σ21 := zc_ua262 eσ21 hσ (zc_p256_6 kthis) (by omega)
    have hFσ21 := zc_Fa eσ21 (zc_p256_6 kthis) rfl hFσ
    have hOσ21 := zc_Ow eσ21 (by omega) hOσ
    have t16 := zc_g256_5 hσ21 kthis
    have t17 : σ21 this 5 = σ this 5 := by rw [eσ21]; exact zq_up_ne (zc_dk kthis (zc_p256_6 kthis) rfl)
    exact zr_vret (pc := 22) hV dX7_hang_22 rfl rfl ⟨rfl, hσ21, hFσ21, hOσ21, (by omega)⟩
set_option maxHeartbeats 800000 in
theorem c_X7_readLeaf {σ : zq_S} (hσ : zc_T σ) (this : Int) (kthis : zc_kd this = 256) (variables : Int) (wordMask : Int) (q0 : 0 ≤ variables ∧ variables ≤ 8) (q1 : 0 ≤ wordMask ∧ wordMask ≤ 255) : zq_C zc_w yX7_readLeaf cX7_readLeaf 6 (some .int) 2 43 284 284 [ZR this, ZR 1, ZI variables, ZI wordMask] σ (zq_pi (fun r τ => zc_T τ ∧ zc_Fr [(1, 2), (1, 3), (256, 5), (256, 6), (257, -1), (258, -1), (259, -1), (260, -1)] σ τ ∧ zc_Own this σ τ ∧ (((-1) ≤ r ∧ r ≤ 38) ∧ (0 ≤ r → 1 ≤ τ this 5)))) := by
  refine zq_C_of (by decide) (Nat.le_refl _) (Nat.le_of_ble_eq_true rfl) [some (ZR this), some (ZR 1), some (ZI variables), some (ZI wordMask), none, none] rfl (fun V hV => ?_)
  have pothis := zc_pos kthis rfl
  have hFσ := zc_Fr_rf [(1, 2), (1, 3), (256, 5), (256, 6), (257, -1), (258, -1), (259, -1), (260, -1)] σ
  have hOσ := zc_Own_rf this σ
  show V 0 [some (ZR this), some (ZR 1), some (ZI variables), some (ZI wordMask), none, none] [] 284 σ
  refine zr_aload_n (pc := 0) hV dX7_readLeaf_0 rfl rfl ?_
  refine zr_callVi (pc := 1) hV [] (st := []) (c_X8_next (σ := σ) hσ) dX7_readLeaf_1 mX7_62 (zc_k1 zc_s1) (zc_pos zc_s1 rfl) (by decide) (Nat.le_of_ble_eq_true rfl) (Nat.le_refl _) (fun r1 σ1 hr1 pσ1 => ?_)
  obtain ⟨hσ1, hfσ1, pσ1⟩ := pσ1
  have hFσ1 := zc_Fc hfσ1 rfl hFσ
  have hOσ1 := zc_Oc hfσ1 rfl hOσ
  refine zr_istore (pc := 4) hV [some (ZR this), some (ZR 1), some (ZI variables), some (ZI wordMask), some (ZI r1), none] dX7_readLeaf_4 (by decide) rfl rfl ?_
  refine zr_aload_n (pc := 6) hV dX7_readLeaf_6 rfl rfl ?_
  refine zr_getI (pc := 7) hV 6 dX7_readLeaf_7 fX7_35 rfl rfl (zc_k256 kthis) (zc_pos kthis rfl) ?_
  have t1 := zc_g256_6 hσ1 kthis
  have t2 : σ1 this 6 = σ this 6 := hfσ1 _ _ (zc_out_at kthis rfl)
  refine zr_bipush (pc := 10) hV 20 dX7_readLeaf_10 (by decide) ?_
  refine zr_icmp_lt (pc := 12) hV 17 dX7_readLeaf_12 (by decide) (by omega) ⟨by decide, by decide⟩ (fun c3 => ?_) (fun c3 => ?_)
  · show V 17 [some (ZR this), some (ZR 1), some (ZI variables), some (ZI wordMask), some (ZI r1), none] [] 284 σ1
    refine zr_iload (pc := 17) hV dX7_readLeaf_17 rfl ?_
    refine zr_bipush (pc := 19) hV 97 dX7_readLeaf_19 (by decide) ?_
    have J60 : V 60 [some (ZR this), some (ZR 1), none, some (ZI wordMask), none, none] [] 284 σ1 := by
      show V 60 [some (ZR this), some (ZR 1), none, some (ZI wordMask), none, none] [] 284 σ1
      refine zr_aload_n (pc := 60) hV dX7_readLeaf_60 rfl rfl ?_
      refine zr_sipush (pc := 61) hV 255 dX7_readLeaf_61 (by decide) ?_
      refine zr_callVi (pc := 64) hV [ZI 255] (st := []) (c_X8_takeNumber (σ := σ1) hσ1 255 (by omega)) dX7_readLeaf_64 mX7_80 (zc_k1 zc_s1) (zc_pos zc_s1 rfl) (by decide) (Nat.le_of_ble_eq_true rfl) (Nat.le_refl _) (fun r64 σ64 hr64 pσ64 => ?_)
      obtain ⟨hσ64, hfσ64, pσ64⟩ := pσ64
      have hFσ64 := zc_Fc hfσ64 rfl hFσ1
      have hOσ64 := zc_Oc hfσ64 rfl hOσ1
      refine zr_istore (pc := 67) hV [some (ZR this), some (ZR 1), none, some (ZI wordMask), none, some (ZI r64)] dX7_readLeaf_67 (by decide) rfl rfl ?_
      refine zr_iload (pc := 69) hV dX7_readLeaf_69 rfl ?_
      refine zr_if_ge (pc := 71) hV 76 dX7_readLeaf_71 (by decide) (by omega) (fun c4 => ?_) (fun c4 => ?_)
      · show V 76 [some (ZR this), some (ZR 1), none, some (ZI wordMask), none, some (ZI r64)] [] 284 σ64
        refine zr_aload_n (pc := 76) hV dX7_readLeaf_76 rfl rfl ?_
        refine zr_dup (pc := 77) hV dX7_readLeaf_77 (fun _ => rfl) ?_
        refine zr_getI (pc := 78) hV 6 dX7_readLeaf_78 fX7_35 rfl rfl (zc_k256 kthis) (zc_pos kthis rfl) ?_
        have t5 := zc_g256_6 hσ64 kthis
        have t6 : σ64 this 6 = σ1 this 6 := hfσ64 _ _ (zc_out_at kthis rfl)
        have t7 : σ1 this 6 = σ this 6 := hfσ1 _ _ (zc_out_at kthis rfl)
        refine zr_iconst (pc := 81) hV 1 dX7_readLeaf_81 rfl ?_
        refine zr_iadd (pc := 82) hV dX7_readLeaf_82 ?_
        refine zr_putI (pc := 83) hV 6 dX7_readLeaf_83 fX7_35 rfl rfl rfl (zc_k256 kthis) (zc_pos kthis rfl) (fun σ83 eσ83 => ?_)
        have hσ83 : zc_T σ83 := zc_u256_6 eσ83 hσ64 kthis (by omega)
        have hFσ83 := zc_Fw eσ83 kthis rfl hFσ64
        have hOσ83 := zc_Ow eσ83 (by omega) hOσ64
        refine zr_aload_n (pc := 86) hV dX7_readLeaf_86 rfl rfl ?_
        refine zr_iconst (pc := 87) hV 2 dX7_readLeaf_87 rfl ?_
        refine zr_iload (pc := 88) hV dX7_readLeaf_88 rfl ?_
        refine zr_iload_n (pc := 90) hV dX7_readLeaf_90 rfl rfl ?_
        refine zr_iand (pc := 91) hV dX7_readLeaf_91 ?_
        have t8 := zq_and_nnR (x := r64) (y := wordMask) (by omega)
        refine zr_iconst (pc := 92) hV 0 dX7_readLeaf_92 rfl ?_
        refine zr_iconst (pc := 93) hV 0 dX7_readLeaf_93 rfl ?_
        refine zr_callVi (pc := 94) hV [ZI 2, ZI (zq_and r64 wordMask), ZI 0, ZI 0] (st := []) (c_X7_addNode (σ := σ83) hσ83 this kthis 2 (zq_and r64 wordMask) 0 0 (by omega) (by omega) (by omega) (by omega)) dX7_readLeaf_94 mX7_76 (zc_k256 kthis) (zc_pos kthis rfl) (by decide) (Nat.le_of_ble_eq_true rfl) (Nat.le_refl _) (fun r94 σ94 hr94 pσ94 => ?_)
        obtain ⟨hσ94, hfσ94, hoσ94, pσ94⟩ := pσ94
        have hFσ94 := zc_Fc hfσ94 rfl hFσ83
        have hOσ94 := zc_Oo hoσ94 hOσ83
        have t9 := zc_g256_5 hσ83 kthis
        have t10 : σ83 this 5 = σ64 this 5 := by rw [eσ83]; exact zq_up_ne (by omega)
        have t11 : σ64 this 5 = σ1 this 5 := hfσ64 _ _ (zc_out_at kthis rfl)
        have t12 : σ1 this 5 = σ this 5 := hfσ1 _ _ (zc_out_at kthis rfl)
        have t13 := zc_g256_5 hσ94 kthis
        have t14 := zc_g256_5 hσ94 kthis
        exact zr_iret (pc := 97) hV dX7_readLeaf_97 rfl rfl ⟨_, rfl, (by omega), hσ94, hFσ94, hOσ94, (by omega)⟩
      · show V 74 [some (ZR this), some (ZR 1), none, some (ZI wordMask), none, some (ZI r64)] [] 284 σ64
        refine zr_iconst (pc := 74) hV (-1) dX7_readLeaf_74 rfl ?_
        have t15 := zc_g256_5 hσ64 kthis
        have t16 : σ64 this 5 = σ1 this 5 := hfσ64 _ _ (zc_out_at kthis rfl)
        have t17 : σ1 this 5 = σ this 5 := hfσ1 _ _ (zc_out_at kthis rfl)
        exact zr_iret (pc := 75) hV dX7_readLeaf_75 rfl rfl ⟨_, rfl, ⟨by decide, by decide⟩, hσ64, hFσ64, hOσ64, (by omega)⟩
    refine zr_icmp_lt (pc := 21) hV 60 dX7_readLeaf_21 (by decide) (by omega) ⟨by decide, by decide⟩ (fun c18 => ?_) (fun c18 => ?_)
    · refine zr_sub (pc := 60) hV [some (ZR this), some (ZR 1), none, some (ZI wordMask), none, none] (⟨rfl, rfl, rfl, trivial⟩) ?_
      exact J60
    · show V 24 [some (ZR this), some (ZR 1), some (ZI variables), some (ZI wordMask), some (ZI r1), none] [] 284 σ1
      refine zr_iload (pc := 24) hV dX7_readLeaf_24 rfl ?_
      refine zr_bipush (pc := 26) hV 97 dX7_readLeaf_26 (by decide) ?_
      refine zr_isub (pc := 28) hV dX7_readLeaf_28 ?_
      refine zr_iload_n (pc := 29) hV dX7_readLeaf_29 rfl rfl ?_
      refine zr_icmp_ge (pc := 30) hV 60 dX7_readLeaf_30 (by decide) (by omega) (by omega) (fun c19 => ?_) (fun c19 => ?_)
      · refine zr_sub (pc := 60) hV [some (ZR this), some (ZR 1), none, some (ZI wordMask), none, none] (⟨rfl, rfl, rfl, trivial⟩) ?_
        exact J60
      · show V 33 [some (ZR this), some (ZR 1), some (ZI variables), some (ZI wordMask), some (ZI r1), none] [] 284 σ1
        refine zr_aload_n (pc := 33) hV dX7_readLeaf_33 rfl rfl ?_
        refine zr_callVv (pc := 34) hV [] (st := []) (c_X8_pass (σ := σ1) hσ1) dX7_readLeaf_34 mX7_70 (zc_k1 zc_s1) (zc_pos zc_s1 rfl) (by decide) (Nat.le_of_ble_eq_true rfl) (Nat.le_refl _) (fun σ34 pσ34 => ?_)
        obtain ⟨hσ34, hfσ34, pσ34⟩ := pσ34
        have hFσ34 := zc_Fc hfσ34 rfl hFσ1
        have hOσ34 := zc_Oc hfσ34 rfl hOσ1
        refine zr_aload_n (pc := 37) hV dX7_readLeaf_37 rfl rfl ?_
        refine zr_dup (pc := 38) hV dX7_readLeaf_38 (fun _ => rfl) ?_
        refine zr_getI (pc := 39) hV 6 dX7_readLeaf_39 fX7_35 rfl rfl (zc_k256 kthis) (zc_pos kthis rfl) ?_
        have t20 := zc_g256_6 hσ34 kthis
        have t21 : σ34 this 6 = σ1 this 6 := hfσ34 _ _ (zc_out_at kthis rfl)
        have t22 : σ1 this 6 = σ this 6 := hfσ1 _ _ (zc_out_at kthis rfl)
        refine zr_iconst (pc := 42) hV 1 dX7_readLeaf_42 rfl ?_
        refine zr_iadd (pc := 43) hV dX7_readLeaf_43 ?_
        refine zr_putI (pc := 44) hV 6 dX7_readLeaf_44 fX7_35 rfl rfl rfl (zc_k256 kthis) (zc_pos kthis rfl) (fun σ44 eσ44 => ?_)
        have hσ44 : zc_T σ44 := zc_u256_6 eσ44 hσ34 kthis (by omega)
        have hFσ44 := zc_Fw eσ44 kthis rfl hFσ34
        have hOσ44 := zc_Ow eσ44 (by omega) hOσ34
        refine zr_aload_n (pc := 47) hV dX7_readLeaf_47 rfl rfl ?_
        refine zr_iconst (pc := 48) hV 1 dX7_readLeaf_48 rfl ?_
        refine zr_iload (pc := 49) hV dX7_readLeaf_49 rfl ?_
        refine zr_bipush (pc := 51) hV 97 dX7_readLeaf_51 (by decide) ?_
        refine zr_isub (pc := 53) hV dX7_readLeaf_53 ?_
        refine zr_iconst (pc := 54) hV 0 dX7_readLeaf_54 rfl ?_
        refine zr_iconst (pc := 55) hV 0 dX7_readLeaf_55 rfl ?_
        refine zr_callVi (pc := 56) hV [ZI 1, ZI (r1 - 97), ZI 0, ZI 0] (st := []) (c_X7_addNode (σ := σ44) hσ44 this kthis 1 (r1 - 97) 0 0 (by omega) (by omega) (by omega) (by omega)) dX7_readLeaf_56 mX7_76 (zc_k256 kthis) (zc_pos kthis rfl) (by decide) (Nat.le_of_ble_eq_true rfl) (Nat.le_refl _) (fun r56 σ56 hr56 pσ56 => ?_)
        obtain ⟨hσ56, hfσ56, hoσ56, pσ56⟩ := pσ56
        have hFσ56 := zc_Fc hfσ56 rfl hFσ44
        have hOσ56 := zc_Oo hoσ56 hOσ44
        have t23 := zc_g256_5 hσ44 kthis
        have t24 : σ44 this 5 = σ34 this 5 := by rw [eσ44]; exact zq_up_ne (by omega)
        have t25 : σ34 this 5 = σ1 this 5 := hfσ34 _ _ (zc_out_at kthis rfl)
        have t26 : σ1 this 5 = σ this 5 := hfσ1 _ _ (zc_out_at kthis rfl)
        have t27 := zc_g256_5 hσ56 kthis
        have t28 := zc_g256_5 hσ56 kthis
        exact zr_iret (pc := 59) hV dX7_readLeaf_59 rfl rfl ⟨_, rfl, (by omega), hσ56, hFσ56, hOσ56, (by omega)⟩
  · show V 15 [some (ZR this), some (ZR 1), some (ZI variables), some (ZI wordMask), some (ZI r1), none] [] 284 σ1
    refine zr_iconst (pc := 15) hV (-1) dX7_readLeaf_15 rfl ?_
    have t29 := zc_g256_5 hσ1 kthis
    have t30 : σ1 this 5 = σ this 5 := hfσ1 _ _ (zc_out_at kthis rfl)
    exact zr_iret (pc := 16) hV dX7_readLeaf_16 rfl rfl ⟨_, rfl, ⟨by decide, by decide⟩, hσ1, hFσ1, hOσ1, (by omega)⟩
set_option maxHeartbeats 800000 in
theorem c_X7_openAll {σ : zq_S} (hσ : zc_T σ) (this : Int) (kthis : zc_kd this = 256)  : zq_C zc_w yX7_openAll cX7_openAll 2 (some .boolean) 2 41 284 284 [ZR this, ZR 1] σ (zq_pi (fun r τ => zc_T τ ∧ zc_Fr [(1, 2), (256, 9), (263, -1)] σ τ ∧ zc_Own this σ τ ∧ ((0 ≤ r ∧ r ≤ 1) ∧ τ this 5 = σ this 5))) := by
  refine zq_C_of (by decide) (Nat.le_refl _) (Nat.le_of_ble_eq_true rfl) [some (ZR this), some (ZR 1)] rfl (fun V hV => ?_)
  have pothis := zc_pos kthis rfl
  have hFσ := zc_Fr_rf [(1, 2), (256, 9), (263, -1)] σ
  have hOσ := zc_Own_rf this σ
  have L0 : ∀ (fuel : Nat) (σ_0 : zq_S), (zc_T σ_0) → (zc_Fr [(1, 2), (256, 9), (263, -1)] σ σ_0) → (zc_Own this σ σ_0) → 6 - σ_0 this 9 < (fuel : Int) → V 0 [some (ZR this), some (ZR 1)] [] 284 σ_0 := by
    intro fuel
    induction fuel with
    | zero =>
      intro σ_0 hσ_0 hFσ_0 hOσ_0 hm0
      have t1 := zc_g256_9 hσ_0 kthis
      exfalso; omega
    | succ fuel ih =>
      intro σ_0 hσ_0 hFσ_0 hOσ_0 hm0
      have ih0 := ih
      show V 0 [some (ZR this), some (ZR 1)] [] 284 σ_0
      refine zr_aload_n (pc := 0) hV dX7_openAll_0 rfl rfl ?_
      refine zr_getI (pc := 1) hV 9 dX7_openAll_1 fX7_38 rfl rfl (zc_k256 kthis) (zc_pos kthis rfl) ?_
      have t2 := zc_g256_9 hσ_0 kthis
      refine zr_bipush (pc := 4) hV 6 dX7_openAll_4 (by decide) ?_
      refine zr_icmp_ge (pc := 6) hV 41 dX7_openAll_6 (by decide) (by omega) ⟨by decide, by decide⟩ (fun c3 => ?_) (fun c3 => ?_)
      · show V 41 [some (ZR this), some (ZR 1)] [] 284 σ_0
        refine zr_aload_n (pc := 41) hV dX7_openAll_41 rfl rfl ?_
        refine zr_callVi (pc := 42) hV [] (st := []) (c_X8_next (σ := σ_0) hσ_0) dX7_openAll_42 mX7_62 (zc_k1 zc_s1) (zc_pos zc_s1 rfl) (by decide) (Nat.le_of_ble_eq_true rfl) (Nat.le_refl _) (fun r42 σ42 hr42 pσ42 => ?_)
        obtain ⟨hσ42, hfσ42, pσ42⟩ := pσ42
        have hFσ42 := zc_Fc hfσ42 rfl hFσ_0
        have hOσ42 := zc_Oc hfσ42 rfl hOσ_0
        refine zr_bipush (pc := 45) hV 40 dX7_openAll_45 (by decide) ?_
        refine zr_icmp_eq (pc := 47) hV 54 dX7_openAll_47 (by decide) (by omega) ⟨by decide, by decide⟩ (fun c4 => ?_) (fun c4 => ?_)
        · show V 54 [some (ZR this), some (ZR 1)] [] 284 σ42
          refine zr_iconst (pc := 54) hV 0 dX7_openAll_54 rfl ?_
          show V 55 [some (ZR this), some (ZR 1)] [ZI 0] 284 σ42
          have t5 := zc_g256_5 hσ42 kthis
          have t6 : σ42 this 5 = σ_0 this 5 := hfσ42 _ _ (zc_out_at kthis rfl)
          have t7 : σ_0 this 5 = σ this 5 := hFσ_0 _ _ (zc_out_at kthis rfl)
          exact zr_zret (pc := 55) hV dX7_openAll_55 rfl rfl (by omega) ⟨_, rfl, ⟨by decide, by decide⟩, hσ42, hFσ42, hOσ42, (by omega)⟩
        · show V 50 [some (ZR this), some (ZR 1)] [] 284 σ42
          refine zr_iconst (pc := 50) hV 1 dX7_openAll_50 rfl ?_
          refine zr_goto (pc := 51) hV 55 dX7_openAll_51 (by decide) ?_
          show V 55 [some (ZR this), some (ZR 1)] [ZI 1] 284 σ42
          have t8 := zc_g256_5 hσ42 kthis
          have t9 : σ42 this 5 = σ_0 this 5 := hfσ42 _ _ (zc_out_at kthis rfl)
          have t10 : σ_0 this 5 = σ this 5 := hFσ_0 _ _ (zc_out_at kthis rfl)
          exact zr_zret (pc := 55) hV dX7_openAll_55 rfl rfl (by omega) ⟨_, rfl, ⟨by decide, by decide⟩, hσ42, hFσ42, hOσ42, (by omega)⟩
      · show V 9 [some (ZR this), some (ZR 1)] [] 284 σ_0
        refine zr_aload_n (pc := 9) hV dX7_openAll_9 rfl rfl ?_
        refine zr_bipush (pc := 10) hV 40 dX7_openAll_10 (by decide) ?_
        refine zr_callVi (pc := 12) hV [ZI 40] (st := []) (c_X8_takes (σ := σ_0) hσ_0 40 (by omega)) dX7_openAll_12 mX7_73 (zc_k1 zc_s1) (zc_pos zc_s1 rfl) (by decide) (Nat.le_of_ble_eq_true rfl) (Nat.le_refl _) (fun r12 σ12 hr12 pσ12 => ?_)
        obtain ⟨hσ12, hfσ12, pσ12⟩ := pσ12
        have hFσ12 := zc_Fc hfσ12 rfl hFσ_0
        have hOσ12 := zc_Oc hfσ12 rfl hOσ_0
        refine zr_if_eq (pc := 15) hV 41 dX7_openAll_15 (by decide) (by omega) (fun c11 => ?_) (fun c11 => ?_)
        · show V 41 [some (ZR this), some (ZR 1)] [] 284 σ12
          refine zr_aload_n (pc := 41) hV dX7_openAll_41 rfl rfl ?_
          refine zr_callVi (pc := 42) hV [] (st := []) (c_X8_next (σ := σ12) hσ12) dX7_openAll_42 mX7_62 (zc_k1 zc_s1) (zc_pos zc_s1 rfl) (by decide) (Nat.le_of_ble_eq_true rfl) (Nat.le_refl _) (fun r42 σ42 hr42 pσ42 => ?_)
          obtain ⟨hσ42, hfσ42, pσ42⟩ := pσ42
          have hFσ42 := zc_Fc hfσ42 rfl hFσ12
          have hOσ42 := zc_Oc hfσ42 rfl hOσ12
          refine zr_bipush (pc := 45) hV 40 dX7_openAll_45 (by decide) ?_
          refine zr_icmp_eq (pc := 47) hV 54 dX7_openAll_47 (by decide) (by omega) ⟨by decide, by decide⟩ (fun c12 => ?_) (fun c12 => ?_)
          · show V 54 [some (ZR this), some (ZR 1)] [] 284 σ42
            refine zr_iconst (pc := 54) hV 0 dX7_openAll_54 rfl ?_
            show V 55 [some (ZR this), some (ZR 1)] [ZI 0] 284 σ42
            have t13 := zc_g256_5 hσ42 kthis
            have t14 : σ42 this 5 = σ12 this 5 := hfσ42 _ _ (zc_out_at kthis rfl)
            have t15 : σ12 this 5 = σ_0 this 5 := hfσ12 _ _ (zc_out_at kthis rfl)
            have t16 : σ_0 this 5 = σ this 5 := hFσ_0 _ _ (zc_out_at kthis rfl)
            exact zr_zret (pc := 55) hV dX7_openAll_55 rfl rfl (by omega) ⟨_, rfl, ⟨by decide, by decide⟩, hσ42, hFσ42, hOσ42, (by omega)⟩
          · show V 50 [some (ZR this), some (ZR 1)] [] 284 σ42
            refine zr_iconst (pc := 50) hV 1 dX7_openAll_50 rfl ?_
            refine zr_goto (pc := 51) hV 55 dX7_openAll_51 (by decide) ?_
            show V 55 [some (ZR this), some (ZR 1)] [ZI 1] 284 σ42
            have t17 := zc_g256_5 hσ42 kthis
            have t18 : σ42 this 5 = σ12 this 5 := hfσ42 _ _ (zc_out_at kthis rfl)
            have t19 : σ12 this 5 = σ_0 this 5 := hfσ12 _ _ (zc_out_at kthis rfl)
            have t20 : σ_0 this 5 = σ this 5 := hFσ_0 _ _ (zc_out_at kthis rfl)
            exact zr_zret (pc := 55) hV dX7_openAll_55 rfl rfl (by omega) ⟨_, rfl, ⟨by decide, by decide⟩, hσ42, hFσ42, hOσ42, (by omega)⟩
        · show V 18 [some (ZR this), some (ZR 1)] [] 284 σ12
          refine zr_aload_n (pc := 18) hV dX7_openAll_18 rfl rfl ?_
          refine zr_dup (pc := 19) hV dX7_openAll_19 (fun _ => rfl) ?_
          refine zr_getI (pc := 20) hV 9 dX7_openAll_20 fX7_38 rfl rfl (zc_k256 kthis) (zc_pos kthis rfl) ?_
          have t21 := zc_g256_9 hσ12 kthis
          have t22 : σ12 this 9 = σ_0 this 9 := hfσ12 _ _ (zc_out_at kthis rfl)
          refine zr_iconst (pc := 23) hV 1 dX7_openAll_23 rfl ?_
          refine zr_iadd (pc := 24) hV dX7_openAll_24 ?_
          refine zr_putI (pc := 25) hV 9 dX7_openAll_25 fX7_38 rfl rfl rfl (zc_k256 kthis) (zc_pos kthis rfl) (fun σ25 eσ25 => ?_)
          have hσ25 : zc_T σ25 := zc_u256_9 eσ25 hσ12 kthis (by omega)
          have hFσ25 := zc_Fw eσ25 kthis rfl hFσ12
          have hOσ25 := zc_Ow eσ25 (by omega) hOσ12
          refine zr_aload_n (pc := 28) hV dX7_openAll_28 rfl rfl ?_
          refine zr_getR (pc := 29) hV 8 (this + 7) dX7_openAll_29 fX7_28 rfl rfl (zc_k256 kthis) (zc_pos kthis rfl) (zc_g256_8 hσ25 kthis) (zc_pos (zc_p256_7 kthis) rfl).1 ?_
          refine zr_aload_n (pc := 32) hV dX7_openAll_32 rfl rfl ?_
          refine zr_getI (pc := 33) hV 9 dX7_openAll_33 fX7_38 rfl rfl (zc_k256 kthis) (zc_pos kthis rfl) ?_
          have t23 := zc_g256_9 hσ25 kthis
          have t24 : σ25 this 9 = (σ12 this 9) + 1 := by rw [eσ25]; exact zq_up_same _ _ _ _
          refine zr_iconst (pc := 36) hV 0 dX7_openAll_36 rfl ?_
          refine zr_iast (pc := 37) hV dX7_openAll_37 (zc_k263 (zc_p256_7 kthis)) (zc_pos (zc_p256_7 kthis) rfl) rfl (by omega) (fun σ37 eσ37 => ?_)
          have hσ37 : zc_T σ37 := zc_ua263 eσ37 hσ25 (zc_p256_7 kthis) (by omega)
          have hFσ37 := zc_Fa eσ37 (zc_p256_7 kthis) rfl hFσ25
          have hOσ37 := zc_Ow eσ37 (by omega) hOσ25
          refine zr_goto (pc := 38) hV 0 dX7_openAll_38 (by decide) ?_
          have t25 := zc_g256_9 hσ37 kthis
          have t26 : σ37 this 9 = σ25 this 9 := by rw [eσ37]; exact zq_up_ne (zc_dk kthis (zc_p256_7 kthis) rfl)
          have t27 : σ25 this 9 = (σ12 this 9) + 1 := by rw [eσ25]; exact zq_up_same _ _ _ _
          exact ih0 σ37 hσ37 hFσ37 hOσ37 (by omega)
  have t28 := zc_g256_9 hσ kthis
  exact L0 (6 - σ this 9 + 1 : Int).toNat σ hσ hFσ hOσ (by omega)
set_option maxHeartbeats 800000 in
theorem c_X7_closeAll {σ : zq_S} (hσ : zc_T σ) (this : Int) (kthis : zc_kd this = 256)  : zq_C zc_w yX7_closeAll cX7_closeAll 2 (none) 2 45 284 284 [ZR this, ZR 1] σ (zq_pv (fun τ => zc_T τ ∧ zc_Fr [(1, 2), (256, 5), (256, 9), (257, -1), (258, -1), (259, -1), (260, -1), (262, -1)] σ τ ∧ zc_Own this σ τ ∧ (σ this 5 ≤ τ this 5))) := by
  refine zq_C_of (by decide) (Nat.le_refl _) (Nat.le_of_ble_eq_true rfl) [some (ZR this), some (ZR 1)] rfl (fun V hV => ?_)
  have pothis := zc_pos kthis rfl
  have hFσ := zc_Fr_rf [(1, 2), (256, 5), (256, 9), (257, -1), (258, -1), (259, -1), (260, -1), (262, -1)] σ
  have hOσ := zc_Own_rf this σ
  have L0 : ∀ (fuel : Nat) (σ_0 : zq_S), (zc_T σ_0) → (zc_Fr [(1, 2), (256, 5), (256, 9), (257, -1), (258, -1), (259, -1), (260, -1), (262, -1)] σ σ_0) → (zc_Own this σ σ_0) → (σ this 5 ≤ σ_0 this 5) → σ_0 this 9 < (fuel : Int) → V 0 [some (ZR this), some (ZR 1)] [] 284 σ_0 := by
    intro fuel
    induction fuel with
    | zero =>
      intro σ_0 hσ_0 hFσ_0 hOσ_0 hi0_0 hm0
      have t1 := zc_g256_9 hσ_0 kthis
      exfalso; omega
    | succ fuel ih =>
      intro σ_0 hσ_0 hFσ_0 hOσ_0 hi0_0 hm0
      have ih0 := ih
      show V 0 [some (ZR this), some (ZR 1)] [] 284 σ_0
      refine zr_aload_n (pc := 0) hV dX7_closeAll_0 rfl rfl ?_
      refine zr_getI (pc := 1) hV 9 dX7_closeAll_1 fX7_38 rfl rfl (zc_k256 kthis) (zc_pos kthis rfl) ?_
      have t2 := zc_g256_9 hσ_0 kthis
      refine zr_if_le (pc := 4) hV 44 dX7_closeAll_4 (by decide) (by omega) (fun c3 => ?_) (fun c3 => ?_)
      · show V 44 [some (ZR this), some (ZR 1)] [] 284 σ_0
        have t4 := zc_g256_5 hσ_0 kthis
        exact zr_vret (pc := 44) hV dX7_closeAll_44 rfl rfl ⟨rfl, hσ_0, hFσ_0, hOσ_0, (by omega)⟩
      · show V 7 [some (ZR this), some (ZR 1)] [] 284 σ_0
        refine zr_aload_n (pc := 7) hV dX7_closeAll_7 rfl rfl ?_
        refine zr_bipush (pc := 8) hV 41 dX7_closeAll_8 (by decide) ?_
        refine zr_callVi (pc := 10) hV [ZI 41] (st := []) (c_X8_takes (σ := σ_0) hσ_0 41 (by omega)) dX7_closeAll_10 mX7_73 (zc_k1 zc_s1) (zc_pos zc_s1 rfl) (by decide) (Nat.le_of_ble_eq_true rfl) (Nat.le_refl _) (fun r10 σ10 hr10 pσ10 => ?_)
        obtain ⟨hσ10, hfσ10, pσ10⟩ := pσ10
        have hFσ10 := zc_Fc hfσ10 rfl hFσ_0
        have hOσ10 := zc_Oc hfσ10 rfl hOσ_0
        refine zr_if_eq (pc := 13) hV 44 dX7_closeAll_13 (by decide) (by omega) (fun c5 => ?_) (fun c5 => ?_)
        · show V 44 [some (ZR this), some (ZR 1)] [] 284 σ10
          have t6 := zc_g256_5 hσ10 kthis
          have t7 : σ10 this 5 = σ_0 this 5 := hfσ10 _ _ (zc_out_at kthis rfl)
          exact zr_vret (pc := 44) hV dX7_closeAll_44 rfl rfl ⟨rfl, hσ10, hFσ10, hOσ10, (by omega)⟩
        · show V 16 [some (ZR this), some (ZR 1)] [] 284 σ10
          refine zr_aload_n (pc := 16) hV dX7_closeAll_16 rfl rfl ?_
          refine zr_dup (pc := 17) hV dX7_closeAll_17 (fun _ => rfl) ?_
          refine zr_getI (pc := 18) hV 9 dX7_closeAll_18 fX7_38 rfl rfl (zc_k256 kthis) (zc_pos kthis rfl) ?_
          have t8 := zc_g256_9 hσ10 kthis
          have t9 : σ10 this 9 = σ_0 this 9 := hfσ10 _ _ (zc_out_at kthis rfl)
          refine zr_iconst (pc := 21) hV 1 dX7_closeAll_21 rfl ?_
          refine zr_isub (pc := 22) hV dX7_closeAll_22 ?_
          refine zr_putI (pc := 23) hV 9 dX7_closeAll_23 fX7_38 rfl rfl rfl (zc_k256 kthis) (zc_pos kthis rfl) (fun σ23 eσ23 => ?_)
          have hσ23 : zc_T σ23 := zc_u256_9 eσ23 hσ10 kthis (by omega)
          have hFσ23 := zc_Fw eσ23 kthis rfl hFσ10
          have hOσ23 := zc_Ow eσ23 (by omega) hOσ10
          refine zr_aload_n (pc := 26) hV dX7_closeAll_26 rfl rfl ?_
          refine zr_aload_n (pc := 27) hV dX7_closeAll_27 rfl rfl ?_
          refine zr_getR (pc := 28) hV 7 (this + 6) dX7_closeAll_28 fX7_25 rfl rfl (zc_k256 kthis) (zc_pos kthis rfl) (zc_g256_7 hσ23 kthis) (zc_pos (zc_p256_6 kthis) rfl).1 ?_
          refine zr_aload_n (pc := 31) hV dX7_closeAll_31 rfl rfl ?_
          refine zr_getI (pc := 32) hV 9 dX7_closeAll_32 fX7_38 rfl rfl (zc_k256 kthis) (zc_pos kthis rfl) ?_
          have t10 := zc_g256_9 hσ23 kthis
          have t11 : σ23 this 9 = (σ10 this 9) - 1 := by rw [eσ23]; exact zq_up_same _ _ _ _
          refine zr_iconst (pc := 35) hV 1 dX7_closeAll_35 rfl ?_
          refine zr_iadd (pc := 36) hV dX7_closeAll_36 ?_
          refine zr_iald (pc := 37) hV dX7_closeAll_37 (zc_k262 (zc_p256_6 kthis)) (zc_pos (zc_p256_6 kthis) rfl) rfl (by omega) ?_
          have t12 := zc_ga262 hσ23 (zc_p256_6 kthis) ((σ23 this 9) + 1)
          have t13 : σ23 (this + 6) ((σ23 this 9) + 1) = σ10 (this + 6) ((σ23 this 9) + 1) := by rw [eσ23]; exact zq_up_ne (zc_dk (zc_p256_6 kthis) kthis rfl)
          have t14 : σ10 (this + 6) ((σ23 this 9) + 1) = σ_0 (this + 6) ((σ23 this 9) + 1) := hfσ10 _ _ (zc_out_ar (zc_p256_6 kthis) rfl)
          have t15 := zc_g256_9 hσ23 kthis
          have t16 : σ23 this 9 = (σ10 this 9) - 1 := by rw [eσ23]; exact zq_up_same _ _ _ _
          refine zr_callVv (pc := 38) hV [ZI (σ23 (this + 6) ((σ23 this 9) + 1))] (st := []) (c_X7_hang (σ := σ23) hσ23 this kthis (σ23 (this + 6) ((σ23 this 9) + 1)) (by omega)) dX7_closeAll_38 mX7_54 (zc_k256 kthis) (zc_pos kthis rfl) (by decide) (Nat.le_of_ble_eq_true rfl) (Nat.le_refl _) (fun σ38 pσ38 => ?_)
          obtain ⟨hσ38, hfσ38, hoσ38, pσ38⟩ := pσ38
          have hFσ38 := zc_Fc hfσ38 rfl hFσ23
          have hOσ38 := zc_Oo hoσ38 hOσ23
          have t17 := zc_g256_5 hσ23 kthis
          have t18 : σ23 this 5 = σ10 this 5 := by rw [eσ23]; exact zq_up_ne (by omega)
          have t19 : σ10 this 5 = σ_0 this 5 := hfσ10 _ _ (zc_out_at kthis rfl)
          have t20 := zc_g256_5 hσ38 kthis
          refine zr_goto (pc := 41) hV 0 dX7_closeAll_41 (by decide) ?_
          have t21 := zc_g256_5 hσ38 kthis
          have t22 := zc_g256_9 hσ38 kthis
          have t23 : σ38 this 9 = σ23 this 9 := hfσ38 _ _ (zc_out_at kthis rfl)
          have t24 : σ23 this 9 = (σ10 this 9) - 1 := by rw [eσ23]; exact zq_up_same _ _ _ _
          exact ih0 σ38 hσ38 hFσ38 hOσ38 (by omega) (by omega)
  have t25 := zc_g256_5 hσ kthis
  have t26 := zc_g256_9 hσ kthis
  exact L0 (σ this 9 + 1 : Int).toNat σ hσ hFσ hOσ (by omega) (by omega)
set_option maxHeartbeats 800000 in
theorem c_X7_readFrom {σ : zq_S} (hσ : zc_T σ) (this : Int) (kthis : zc_kd this = 256) (variables : Int) (wordMask : Int) (q0 : 0 ≤ variables ∧ variables ≤ 8) (q1 : 0 ≤ wordMask ∧ wordMask ≤ 255) : zq_C zc_w yX7_readFrom cX7_readFrom 7 (some .boolean) 3 68 284 284 [ZR this, ZR 1, ZI variables, ZI wordMask] σ (zq_pi (fun r τ => zc_T τ ∧ zc_Fr [(1, 2), (1, 3), (256, 5), (256, 6), (256, 9), (257, -1), (258, -1), (259, -1), (260, -1), (262, -1), (263, -1)] σ τ ∧ zc_Own this σ τ ∧ ((0 ≤ r ∧ r ≤ 1) ∧ (r = 1 → 1 ≤ τ this 5)))) := by
  refine zq_C_of (by decide) (Nat.le_refl _) (Nat.le_of_ble_eq_true rfl) [some (ZR this), some (ZR 1), some (ZI variables), some (ZI wordMask), none, none, none] rfl (fun V hV => ?_)
  have pothis := zc_pos kthis rfl
  have hFσ := zc_Fr_rf [(1, 2), (1, 3), (256, 5), (256, 6), (256, 9), (257, -1), (258, -1), (259, -1), (260, -1), (262, -1), (263, -1)] σ
  have hOσ := zc_Own_rf this σ
  show V 0 [some (ZR this), some (ZR 1), some (ZI variables), some (ZI wordMask), none, none, none] [] 284 σ
  refine zr_aload_n (pc := 0) hV dX7_readFrom_0 rfl rfl ?_
  refine zr_iconst (pc := 1) hV 0 dX7_readFrom_1 rfl ?_
  refine zr_putI (pc := 2) hV 5 dX7_readFrom_2 fX7_31 rfl rfl rfl (zc_k256 kthis) (zc_pos kthis rfl) (fun σ2 eσ2 => ?_)
  have hσ2 : zc_T σ2 := zc_u256_5 eσ2 hσ kthis (by omega)
  have hFσ2 := zc_Fw eσ2 kthis rfl hFσ
  have hOσ2 := zc_Ow eσ2 (by omega) hOσ
  refine zr_aload_n (pc := 5) hV dX7_readFrom_5 rfl rfl ?_
  refine zr_iconst (pc := 6) hV 0 dX7_readFrom_6 rfl ?_
  refine zr_putI (pc := 7) hV 6 dX7_readFrom_7 fX7_35 rfl rfl rfl (zc_k256 kthis) (zc_pos kthis rfl) (fun σ7 eσ7 => ?_)
  have hσ7 : zc_T σ7 := zc_u256_6 eσ7 hσ2 kthis (by omega)
  have hFσ7 := zc_Fw eσ7 kthis rfl hFσ2
  have hOσ7 := zc_Ow eσ7 (by omega) hOσ2
  refine zr_aload_n (pc := 10) hV dX7_readFrom_10 rfl rfl ?_
  refine zr_iconst (pc := 11) hV 0 dX7_readFrom_11 rfl ?_
  refine zr_putI (pc := 12) hV 9 dX7_readFrom_12 fX7_38 rfl rfl rfl (zc_k256 kthis) (zc_pos kthis rfl) (fun σ12 eσ12 => ?_)
  have hσ12 : zc_T σ12 := zc_u256_9 eσ12 hσ7 kthis (by omega)
  have hFσ12 := zc_Fw eσ12 kthis rfl hFσ7
  have hOσ12 := zc_Ow eσ12 (by omega) hOσ7
  refine zr_aload_n (pc := 15) hV dX7_readFrom_15 rfl rfl ?_
  refine zr_getR (pc := 16) hV 8 (this + 7) dX7_readFrom_16 fX7_28 rfl rfl (zc_k256 kthis) (zc_pos kthis rfl) (zc_g256_8 hσ12 kthis) (zc_pos (zc_p256_7 kthis) rfl).1 ?_
  refine zr_iconst (pc := 19) hV 0 dX7_readFrom_19 rfl ?_
  refine zr_iconst (pc := 20) hV 0 dX7_readFrom_20 rfl ?_
  refine zr_iast (pc := 21) hV dX7_readFrom_21 (zc_k263 (zc_p256_7 kthis)) (zc_pos (zc_p256_7 kthis) rfl) rfl (by omega) (fun σ21 eσ21 => ?_)
  have hσ21 : zc_T σ21 := zc_ua263 eσ21 hσ12 (zc_p256_7 kthis) (by omega)
  have hFσ21 := zc_Fa eσ21 (zc_p256_7 kthis) rfl hFσ12
  have hOσ21 := zc_Ow eσ21 (by omega) hOσ12
  refine zr_aload_n (pc := 22) hV dX7_readFrom_22 rfl rfl ?_
  refine zr_callVv (pc := 23) hV [] (st := []) (c_X8_rewind (σ := σ21) hσ21) dX7_readFrom_23 mX7_41 (zc_k1 zc_s1) (zc_pos zc_s1 rfl) (by decide) (Nat.le_of_ble_eq_true rfl) (Nat.le_refl _) (fun σ23 pσ23 => ?_)
  obtain ⟨hσ23, hfσ23, pσ23⟩ := pσ23
  have hFσ23 := zc_Fc hfσ23 rfl hFσ21
  have hOσ23 := zc_Oc hfσ23 rfl hOσ21
  refine zr_iconst (pc := 26) hV 0 dX7_readFrom_26 rfl ?_
  refine zr_istore (pc := 27) hV [some (ZR this), some (ZR 1), some (ZI variables), some (ZI wordMask), some (ZI 0), none, none] dX7_readFrom_27 (by decide) rfl rfl ?_
  have L29 : ∀ (fuel : Nat) (x4_29 : Int) (σ_29 : zq_S), (0 ≤ x4_29 ∧ x4_29 ≤ 80) → (zc_T σ_29) → (zc_Fr [(1, 2), (1, 3), (256, 5), (256, 6), (256, 9), (257, -1), (258, -1), (259, -1), (260, -1), (262, -1), (263, -1)] σ σ_29) → (zc_Own this σ σ_29) → 80 - x4_29 < (fuel : Int) → V 29 [some (ZR this), some (ZR 1), some (ZI variables), some (ZI wordMask), some (ZI x4_29), none, none] [] 284 σ_29 := by
    intro fuel
    induction fuel with
    | zero =>
      intro x4_29 σ_29 hx4_29 hσ_29 hFσ_29 hOσ_29 hm29
      exfalso; omega
    | succ fuel ih =>
      intro x4_29 σ_29 hx4_29 hσ_29 hFσ_29 hOσ_29 hm29
      have ih29 := ih
      show V 29 [some (ZR this), some (ZR 1), some (ZI variables), some (ZI wordMask), some (ZI x4_29), none, none] [] 284 σ_29
      refine zr_iload (pc := 29) hV dX7_readFrom_29 rfl ?_
      refine zr_bipush (pc := 31) hV 80 dX7_readFrom_31 (by decide) ?_
      refine zr_icmp_ge (pc := 33) hV 129 dX7_readFrom_33 (by decide) (by omega) ⟨by decide, by decide⟩ (fun c1 => ?_) (fun c1 => ?_)
      · show V 129 [some (ZR this), some (ZR 1), some (ZI variables), some (ZI wordMask), some (ZI x4_29), none, none] [] 284 σ_29
        refine zr_iconst (pc := 129) hV 0 dX7_readFrom_129 rfl ?_
        have t2 := zc_g256_5 hσ_29 kthis
        exact zr_zret (pc := 130) hV dX7_readFrom_130 rfl rfl (by omega) ⟨_, rfl, ⟨by decide, by decide⟩, hσ_29, hFσ_29, hOσ_29, (by omega)⟩
      · show V 36 [some (ZR this), some (ZR 1), some (ZI variables), some (ZI wordMask), some (ZI x4_29), none, none] [] 284 σ_29
        refine zr_aload_n (pc := 36) hV dX7_readFrom_36 rfl rfl ?_
        refine zr_aload_n (pc := 37) hV dX7_readFrom_37 rfl rfl ?_
        refine zr_callVi (pc := 38) hV [ZR 1] (st := []) (c_X7_openAll (σ := σ_29) hσ_29 this kthis) dX7_readFrom_38 mX7_46 (zc_k256 kthis) (zc_pos kthis rfl) (by decide) (Nat.le_of_ble_eq_true rfl) (Nat.le_refl _) (fun r38 σ38 hr38 pσ38 => ?_)
        obtain ⟨hσ38, hfσ38, hoσ38, pσ38⟩ := pσ38
        have hFσ38 := zc_Fc hfσ38 rfl hFσ_29
        have hOσ38 := zc_Oo hoσ38 hOσ_29
        have t3 := zc_g256_5 hσ_29 kthis
        have t4 := zc_g256_5 hσ38 kthis
        have t5 : σ38 this 5 = σ_29 this 5 := hfσ38 _ _ (zc_out_at kthis rfl)
        refine zr_if_ne (pc := 41) hV 46 dX7_readFrom_41 (by decide) (by omega) (fun c6 => ?_) (fun c6 => ?_)
        · show V 46 [some (ZR this), some (ZR 1), some (ZI variables), some (ZI wordMask), some (ZI x4_29), none, none] [] 284 σ38
          refine zr_aload_n (pc := 46) hV dX7_readFrom_46 rfl rfl ?_
          refine zr_aload_n (pc := 47) hV dX7_readFrom_47 rfl rfl ?_
          refine zr_iload_n (pc := 48) hV dX7_readFrom_48 rfl rfl ?_
          refine zr_iload_n (pc := 49) hV dX7_readFrom_49 rfl rfl ?_
          refine zr_callVi (pc := 50) hV [ZR 1, ZI variables, ZI wordMask] (st := []) (c_X7_readLeaf (σ := σ38) hσ38 this kthis variables wordMask (by omega) (by omega)) dX7_readFrom_50 mX7_50 (zc_k256 kthis) (zc_pos kthis rfl) (by decide) (Nat.le_of_ble_eq_true rfl) (Nat.le_refl _) (fun r50 σ50 hr50 pσ50 => ?_)
          obtain ⟨hσ50, hfσ50, hoσ50, pσ50⟩ := pσ50
          have hFσ50 := zc_Fc hfσ50 rfl hFσ38
          have hOσ50 := zc_Oo hoσ50 hOσ38
          have t7 := zc_g256_5 hσ50 kthis
          refine zr_istore (pc := 53) hV [some (ZR this), some (ZR 1), some (ZI variables), some (ZI wordMask), some (ZI x4_29), some (ZI r50), none] dX7_readFrom_53 (by decide) rfl rfl ?_
          refine zr_iload (pc := 55) hV dX7_readFrom_55 rfl ?_
          refine zr_if_ge (pc := 57) hV 62 dX7_readFrom_57 (by decide) (by omega) (fun c8 => ?_) (fun c8 => ?_)
          · show V 62 [some (ZR this), some (ZR 1), some (ZI variables), some (ZI wordMask), some (ZI x4_29), some (ZI r50), none] [] 284 σ50
            refine zr_aload_n (pc := 62) hV dX7_readFrom_62 rfl rfl ?_
            refine zr_iload (pc := 63) hV dX7_readFrom_63 rfl ?_
            refine zr_callVv (pc := 65) hV [ZI r50] (st := []) (c_X7_hang (σ := σ50) hσ50 this kthis r50 (by omega)) dX7_readFrom_65 mX7_54 (zc_k256 kthis) (zc_pos kthis rfl) (by decide) (Nat.le_of_ble_eq_true rfl) (Nat.le_refl _) (fun σ65 pσ65 => ?_)
            obtain ⟨hσ65, hfσ65, hoσ65, pσ65⟩ := pσ65
            have hFσ65 := zc_Fc hfσ65 rfl hFσ50
            have hOσ65 := zc_Oo hoσ65 hOσ50
            have t9 := zc_g256_5 hσ50 kthis
            have t10 := zc_g256_5 hσ65 kthis
            refine zr_aload_n (pc := 68) hV dX7_readFrom_68 rfl rfl ?_
            refine zr_aload_n (pc := 69) hV dX7_readFrom_69 rfl rfl ?_
            refine zr_callVv (pc := 70) hV [ZR 1] (st := []) (c_X7_closeAll (σ := σ65) hσ65 this kthis) dX7_readFrom_70 mX7_58 (zc_k256 kthis) (zc_pos kthis rfl) (by decide) (Nat.le_of_ble_eq_true rfl) (Nat.le_refl _) (fun σ70 pσ70 => ?_)
            obtain ⟨hσ70, hfσ70, hoσ70, pσ70⟩ := pσ70
            have hFσ70 := zc_Fc hfσ70 rfl hFσ65
            have hOσ70 := zc_Oo hoσ70 hOσ65
            have t11 := zc_g256_5 hσ65 kthis
            have t12 := zc_g256_5 hσ70 kthis
            refine zr_aload_n (pc := 73) hV dX7_readFrom_73 rfl rfl ?_
            refine zr_callVi (pc := 74) hV [] (st := []) (c_X8_next (σ := σ70) hσ70) dX7_readFrom_74 mX7_62 (zc_k1 zc_s1) (zc_pos zc_s1 rfl) (by decide) (Nat.le_of_ble_eq_true rfl) (Nat.le_refl _) (fun r74 σ74 hr74 pσ74 => ?_)
            obtain ⟨hσ74, hfσ74, pσ74⟩ := pσ74
            have hFσ74 := zc_Fc hfσ74 rfl hFσ70
            have hOσ74 := zc_Oc hfσ74 rfl hOσ70
            refine zr_istore (pc := 77) hV [some (ZR this), some (ZR 1), some (ZI variables), some (ZI wordMask), some (ZI x4_29), some (ZI r50), some (ZI r74)] dX7_readFrom_77 (by decide) rfl rfl ?_
            refine zr_iload (pc := 79) hV dX7_readFrom_79 rfl ?_
            refine zr_iconst (pc := 81) hV (-1) dX7_readFrom_81 rfl ?_
            refine zr_icmp_ne (pc := 82) hV 98 dX7_readFrom_82 (by decide) (by omega) ⟨by decide, by decide⟩ (fun c13 => ?_) (fun c13 => ?_)
            · show V 98 [some (ZR this), some (ZR 1), some (ZI variables), some (ZI wordMask), some (ZI x4_29), some (ZI r50), some (ZI r74)] [] 284 σ74
              refine zr_iload (pc := 98) hV dX7_readFrom_98 rfl ?_
              refine zr_callSp (pc := 100) hV [ZI r74] (st := []) (c_X8_isSign (σ := σ74) r74 (by omega)) dX7_readFrom_100 mX7_66 (by decide) (Nat.le_of_ble_eq_true rfl) (Nat.le_refl _) (fun r100 hr100 pr100 => ?_)
              refine zr_if_ne (pc := 103) hV 108 dX7_readFrom_103 (by decide) (by omega) (fun c14 => ?_) (fun c14 => ?_)
              · show V 108 [some (ZR this), some (ZR 1), some (ZI variables), some (ZI wordMask), some (ZI x4_29), some (ZI r50), some (ZI r74)] [] 284 σ74
                refine zr_aload_n (pc := 108) hV dX7_readFrom_108 rfl rfl ?_
                refine zr_getR (pc := 109) hV 8 (this + 7) dX7_readFrom_109 fX7_28 rfl rfl (zc_k256 kthis) (zc_pos kthis rfl) (zc_g256_8 hσ74 kthis) (zc_pos (zc_p256_7 kthis) rfl).1 ?_
                refine zr_aload_n (pc := 112) hV dX7_readFrom_112 rfl rfl ?_
                refine zr_getI (pc := 113) hV 9 dX7_readFrom_113 fX7_38 rfl rfl (zc_k256 kthis) (zc_pos kthis rfl) ?_
                have t15 := zc_g256_9 hσ74 kthis
                have t16 : σ74 this 9 = σ70 this 9 := hfσ74 _ _ (zc_out_at kthis rfl)
                refine zr_iload (pc := 116) hV dX7_readFrom_116 rfl ?_
                refine zr_iast (pc := 118) hV dX7_readFrom_118 (zc_k263 (zc_p256_7 kthis)) (zc_pos (zc_p256_7 kthis) rfl) rfl (by omega) (fun σ118 eσ118 => ?_)
                have hσ118 : zc_T σ118 := zc_ua263 eσ118 hσ74 (zc_p256_7 kthis) (by omega)
                have hFσ118 := zc_Fa eσ118 (zc_p256_7 kthis) rfl hFσ74
                have hOσ118 := zc_Ow eσ118 (by omega) hOσ74
                refine zr_aload_n (pc := 119) hV dX7_readFrom_119 rfl rfl ?_
                refine zr_callVv (pc := 120) hV [] (st := []) (c_X8_pass (σ := σ118) hσ118) dX7_readFrom_120 mX7_70 (zc_k1 zc_s1) (zc_pos zc_s1 rfl) (by decide) (Nat.le_of_ble_eq_true rfl) (Nat.le_refl _) (fun σ120 pσ120 => ?_)
                obtain ⟨hσ120, hfσ120, pσ120⟩ := pσ120
                have hFσ120 := zc_Fc hfσ120 rfl hFσ118
                have hOσ120 := zc_Oc hfσ120 rfl hOσ118
                refine zr_iinc (pc := 123) hV [some (ZR this), some (ZR 1), some (ZI variables), some (ZI wordMask), some (ZI (x4_29 + 1)), some (ZI r50), some (ZI r74)] (x4_29 + 1) dX7_readFrom_123 rfl rfl (by decide) rfl rfl ?_
                refine zr_goto (pc := 126) hV 29 dX7_readFrom_126 (by decide) ?_
                refine zr_sub (pc := 29) hV [some (ZR this), some (ZR 1), some (ZI variables), some (ZI wordMask), some (ZI (x4_29 + 1)), none, none] (⟨rfl, rfl, rfl, rfl, rfl, trivial⟩) ?_
                exact ih29 (x4_29 + 1) σ120 (by omega) hσ120 hFσ120 hOσ120 (by omega)
              · show V 106 [some (ZR this), some (ZR 1), some (ZI variables), some (ZI wordMask), some (ZI x4_29), some (ZI r50), some (ZI r74)] [] 284 σ74
                refine zr_iconst (pc := 106) hV 0 dX7_readFrom_106 rfl ?_
                have t17 := zc_g256_5 hσ74 kthis
                have t18 : σ74 this 5 = σ70 this 5 := hfσ74 _ _ (zc_out_at kthis rfl)
                exact zr_zret (pc := 107) hV dX7_readFrom_107 rfl rfl (by omega) ⟨_, rfl, ⟨by decide, by decide⟩, hσ74, hFσ74, hOσ74, (by omega)⟩
            · show V 85 [some (ZR this), some (ZR 1), some (ZI variables), some (ZI wordMask), some (ZI x4_29), some (ZI r50), some (ZI r74)] [] 284 σ74
              refine zr_aload_n (pc := 85) hV dX7_readFrom_85 rfl rfl ?_
              refine zr_getI (pc := 86) hV 9 dX7_readFrom_86 fX7_38 rfl rfl (zc_k256 kthis) (zc_pos kthis rfl) ?_
              have t19 := zc_g256_9 hσ74 kthis
              have t20 : σ74 this 9 = σ70 this 9 := hfσ74 _ _ (zc_out_at kthis rfl)
              refine zr_if_ne (pc := 89) hV 96 dX7_readFrom_89 (by decide) (by omega) (fun c21 => ?_) (fun c21 => ?_)
              · show V 96 [some (ZR this), some (ZR 1), some (ZI variables), some (ZI wordMask), some (ZI x4_29), some (ZI r50), some (ZI r74)] [] 284 σ74
                refine zr_iconst (pc := 96) hV 0 dX7_readFrom_96 rfl ?_
                show V 97 [some (ZR this), some (ZR 1), some (ZI variables), some (ZI wordMask), some (ZI x4_29), some (ZI r50), some (ZI r74)] [ZI 0] 284 σ74
                have t22 := zc_g256_5 hσ74 kthis
                have t23 : σ74 this 5 = σ70 this 5 := hfσ74 _ _ (zc_out_at kthis rfl)
                exact zr_zret (pc := 97) hV dX7_readFrom_97 rfl rfl (by omega) ⟨_, rfl, ⟨by decide, by decide⟩, hσ74, hFσ74, hOσ74, (by omega)⟩
              · show V 92 [some (ZR this), some (ZR 1), some (ZI variables), some (ZI wordMask), some (ZI x4_29), some (ZI r50), some (ZI r74)] [] 284 σ74
                refine zr_iconst (pc := 92) hV 1 dX7_readFrom_92 rfl ?_
                refine zr_goto (pc := 93) hV 97 dX7_readFrom_93 (by decide) ?_
                show V 97 [some (ZR this), some (ZR 1), some (ZI variables), some (ZI wordMask), some (ZI x4_29), some (ZI r50), some (ZI r74)] [ZI 1] 284 σ74
                have t24 := zc_g256_5 hσ74 kthis
                have t25 : σ74 this 5 = σ70 this 5 := hfσ74 _ _ (zc_out_at kthis rfl)
                exact zr_zret (pc := 97) hV dX7_readFrom_97 rfl rfl (by omega) ⟨_, rfl, ⟨by decide, by decide⟩, hσ74, hFσ74, hOσ74, (by omega)⟩
          · show V 60 [some (ZR this), some (ZR 1), some (ZI variables), some (ZI wordMask), some (ZI x4_29), some (ZI r50), none] [] 284 σ50
            refine zr_iconst (pc := 60) hV 0 dX7_readFrom_60 rfl ?_
            have t26 := zc_g256_5 hσ50 kthis
            exact zr_zret (pc := 61) hV dX7_readFrom_61 rfl rfl (by omega) ⟨_, rfl, ⟨by decide, by decide⟩, hσ50, hFσ50, hOσ50, (by omega)⟩
        · show V 44 [some (ZR this), some (ZR 1), some (ZI variables), some (ZI wordMask), some (ZI x4_29), none, none] [] 284 σ38
          refine zr_iconst (pc := 44) hV 0 dX7_readFrom_44 rfl ?_
          have t27 := zc_g256_5 hσ38 kthis
          have t28 : σ38 this 5 = σ_29 this 5 := hfσ38 _ _ (zc_out_at kthis rfl)
          exact zr_zret (pc := 45) hV dX7_readFrom_45 rfl rfl (by omega) ⟨_, rfl, ⟨by decide, by decide⟩, hσ38, hFσ38, hOσ38, (by omega)⟩
  exact L29 (80 - (0 : Int) + 1 : Int).toNat 0 σ23 (by omega) hσ23 hFσ23 hOσ23 (by omega)
set_option maxHeartbeats 800000 in
theorem c_X7_worth {σ : zq_S} (hσ : zc_T σ) (this : Int) (kthis : zc_kd this = 256) (wordMask : Int) (q0 : 0 ≤ wordMask ∧ wordMask ≤ 255) : zq_C zc_w yX7_worth cX7_worth 4 (some .int) 1 23 284 284 [ZR this, ZR 142, ZI wordMask] σ (zq_pi (fun r τ => zc_T τ ∧ zc_Fr [(261, -1)] σ τ ∧ (True))) := by
  refine zq_C_of (by decide) (Nat.le_refl _) (Nat.le_of_ble_eq_true rfl) [some (ZR this), some (ZR 142), some (ZI wordMask), none] rfl (fun V hV => ?_)
  have pothis := zc_pos kthis rfl
  have hFσ := zc_Fr_rf [(261, -1)] σ
  show V 0 [some (ZR this), some (ZR 142), some (ZI wordMask), none] [] 284 σ
  refine zr_iconst (pc := 0) hV 0 dX7_worth_0 rfl ?_
  refine zr_istore_n (pc := 1) hV [some (ZR this), some (ZR 142), some (ZI wordMask), some (ZI 0)] dX7_worth_1 rfl (by decide) rfl rfl ?_
  have L2 : ∀ (fuel : Nat) (x3_2 : Int) (σ_2 : zq_S), (0 ≤ x3_2 ∧ x3_2 ≤ 39) → (zc_T σ_2) → (zc_Fr [(261, -1)] σ σ_2) → 39 - x3_2 < (fuel : Int) → V 2 [some (ZR this), some (ZR 142), some (ZI wordMask), some (ZI x3_2)] [] 284 σ_2 := by
    intro fuel
    induction fuel with
    | zero =>
      intro x3_2 σ_2 hx3_2 hσ_2 hFσ_2 hm2
      exfalso; omega
    | succ fuel ih =>
      intro x3_2 σ_2 hx3_2 hσ_2 hFσ_2 hm2
      have ih2 := ih
      show V 2 [some (ZR this), some (ZR 142), some (ZI wordMask), some (ZI x3_2)] [] 284 σ_2
      refine zr_iload_n (pc := 2) hV dX7_worth_2 rfl rfl ?_
      refine zr_aload_n (pc := 3) hV dX7_worth_3 rfl rfl ?_
      refine zr_getI (pc := 4) hV 5 dX7_worth_4 fX7_31 rfl rfl (zc_k256 kthis) (zc_pos kthis rfl) ?_
      have t1 := zc_g256_5 hσ_2 kthis
      have t2 : σ_2 this 5 = σ this 5 := hFσ_2 _ _ (zc_out_at kthis rfl)
      refine zr_icmp_ge (pc := 7) hV 105 dX7_worth_7 (by decide) (by omega) (by omega) (fun c3 => ?_) (fun c3 => ?_)
      · show V 105 [some (ZR this), some (ZR 142), some (ZI wordMask), some (ZI x3_2)] [] 284 σ_2
        refine zr_aload_n (pc := 105) hV dX7_worth_105 rfl rfl ?_
        refine zr_getI (pc := 106) hV 5 dX7_worth_106 fX7_31 rfl rfl (zc_k256 kthis) (zc_pos kthis rfl) ?_
        have t4 := zc_g256_5 hσ_2 kthis
        have t5 : σ_2 this 5 = σ this 5 := hFσ_2 _ _ (zc_out_at kthis rfl)
        refine zr_if_le (pc := 109) hV 124 dX7_worth_109 (by decide) (by omega) (fun c6 => ?_) (fun c6 => ?_)
        · show V 124 [some (ZR this), some (ZR 142), some (ZI wordMask), some (ZI x3_2)] [] 284 σ_2
          refine zr_iconst (pc := 124) hV 0 dX7_worth_124 rfl ?_
          show V 125 [some (ZR this), some (ZR 142), some (ZI wordMask), some (ZI x3_2)] [ZI 0] 284 σ_2
          exact zr_iret (pc := 125) hV dX7_worth_125 rfl rfl ⟨_, rfl, ⟨by decide, by decide⟩, hσ_2, hFσ_2, trivial⟩
        · show V 112 [some (ZR this), some (ZR 142), some (ZI wordMask), some (ZI x3_2)] [] 284 σ_2
          refine zr_aload_n (pc := 112) hV dX7_worth_112 rfl rfl ?_
          refine zr_getR (pc := 113) hV 4 (this + 5) dX7_worth_113 fX7_22 rfl rfl (zc_k256 kthis) (zc_pos kthis rfl) (zc_g256_4 hσ_2 kthis) (zc_pos (zc_p256_5 kthis) rfl).1 ?_
          refine zr_aload_n (pc := 116) hV dX7_worth_116 rfl rfl ?_
          refine zr_callVp (pc := 117) hV [] (st := [ZR (this + 5)]) (c_X7_root (σ := σ_2) hσ_2 this kthis) dX7_worth_117 mX7_95 (zc_k256 kthis) (zc_pos kthis rfl) (by decide) (Nat.le_of_ble_eq_true rfl) (Nat.le_refl _) (fun r117 hr117 pr117 => ?_)
          have t7 := zc_g256_5 hσ_2 kthis
          have t8 : σ_2 this 5 = σ this 5 := hFσ_2 _ _ (zc_out_at kthis rfl)
          refine zr_iald (pc := 120) hV dX7_worth_120 (zc_k261 (zc_p256_5 kthis)) (zc_pos (zc_p256_5 kthis) rfl) rfl (by omega) ?_
          have t9 := zc_ga261 hσ_2 (zc_p256_5 kthis) r117
          refine zr_goto (pc := 121) hV 125 dX7_worth_121 (by decide) ?_
          show V 125 [some (ZR this), some (ZR 142), some (ZI wordMask), some (ZI x3_2)] [ZI (σ_2 (this + 5) r117)] 284 σ_2
          exact zr_iret (pc := 125) hV dX7_worth_125 rfl rfl ⟨_, rfl, (by omega), hσ_2, hFσ_2, trivial⟩
      · show V 10 [some (ZR this), some (ZR 142), some (ZI wordMask), some (ZI x3_2)] [] 284 σ_2
        refine zr_aload_n (pc := 10) hV dX7_worth_10 rfl rfl ?_
        refine zr_iload_n (pc := 11) hV dX7_worth_11 rfl rfl ?_
        refine zr_callVp (pc := 12) hV [ZI x3_2] (st := []) (c_X7_isVariable (σ := σ_2) hσ_2 this kthis x3_2 (by omega)) dX7_worth_12 mX7_84 (zc_k256 kthis) (zc_pos kthis rfl) (by decide) (Nat.le_of_ble_eq_true rfl) (Nat.le_refl _) (fun r12 hr12 pr12 => ?_)
        refine zr_if_eq (pc := 15) hV 38 dX7_worth_15 (by decide) (by omega) (fun c10 => ?_) (fun c10 => ?_)
        · show V 38 [some (ZR this), some (ZR 142), some (ZI wordMask), some (ZI x3_2)] [] 284 σ_2
          refine zr_aload_n (pc := 38) hV dX7_worth_38 rfl rfl ?_
          refine zr_iload_n (pc := 39) hV dX7_worth_39 rfl rfl ?_
          refine zr_callVp (pc := 40) hV [ZI x3_2] (st := []) (c_X7_isLiteral (σ := σ_2) hσ_2 this kthis x3_2 (by omega)) dX7_worth_40 mX7_87 (zc_k256 kthis) (zc_pos kthis rfl) (by decide) (Nat.le_of_ble_eq_true rfl) (Nat.le_refl _) (fun r40 hr40 pr40 => ?_)
          refine zr_if_eq (pc := 43) hV 61 dX7_worth_43 (by decide) (by omega) (fun c11 => ?_) (fun c11 => ?_)
          · show V 61 [some (ZR this), some (ZR 142), some (ZI wordMask), some (ZI x3_2)] [] 284 σ_2
            refine zr_aload_n (pc := 61) hV dX7_worth_61 rfl rfl ?_
            refine zr_getR (pc := 62) hV 4 (this + 5) dX7_worth_62 fX7_22 rfl rfl (zc_k256 kthis) (zc_pos kthis rfl) (zc_g256_4 hσ_2 kthis) (zc_pos (zc_p256_5 kthis) rfl).1 ?_
            refine zr_iload_n (pc := 65) hV dX7_worth_65 rfl rfl ?_
            refine zr_aload_n (pc := 66) hV dX7_worth_66 rfl rfl ?_
            refine zr_getR (pc := 67) hV 0 (this + 1) dX7_worth_67 fX7_9 rfl rfl (zc_k256 kthis) (zc_pos kthis rfl) (zc_g256_0 hσ_2 kthis) (zc_pos (zc_p256_1 kthis) rfl).1 ?_
            refine zr_iload_n (pc := 70) hV dX7_worth_70 rfl rfl ?_
            refine zr_iald (pc := 71) hV dX7_worth_71 (zc_k257 (zc_p256_1 kthis)) (zc_pos (zc_p256_1 kthis) rfl) rfl (by omega) ?_
            have t12 := zc_ga257 hσ_2 (zc_p256_1 kthis) x3_2
            have t13 : σ_2 (this + 1) x3_2 = σ (this + 1) x3_2 := hFσ_2 _ _ (zc_out_ar (zc_p256_1 kthis) rfl)
            refine zr_aload_n (pc := 72) hV dX7_worth_72 rfl rfl ?_
            refine zr_getR (pc := 73) hV 4 (this + 5) dX7_worth_73 fX7_22 rfl rfl (zc_k256 kthis) (zc_pos kthis rfl) (zc_g256_4 hσ_2 kthis) (zc_pos (zc_p256_5 kthis) rfl).1 ?_
            refine zr_aload_n (pc := 76) hV dX7_worth_76 rfl rfl ?_
            refine zr_getR (pc := 77) hV 2 (this + 3) dX7_worth_77 fX7_16 rfl rfl (zc_k256 kthis) (zc_pos kthis rfl) (zc_g256_2 hσ_2 kthis) (zc_pos (zc_p256_3 kthis) rfl).1 ?_
            refine zr_iload_n (pc := 80) hV dX7_worth_80 rfl rfl ?_
            refine zr_iald (pc := 81) hV dX7_worth_81 (zc_k259 (zc_p256_3 kthis)) (zc_pos (zc_p256_3 kthis) rfl) rfl (by omega) ?_
            have t14 := zc_ga259 hσ_2 (zc_p256_3 kthis) x3_2
            have t15 : σ_2 (this + 3) x3_2 = σ (this + 3) x3_2 := hFσ_2 _ _ (zc_out_ar (zc_p256_3 kthis) rfl)
            refine zr_iald (pc := 82) hV dX7_worth_82 (zc_k261 (zc_p256_5 kthis)) (zc_pos (zc_p256_5 kthis) rfl) rfl (by omega) ?_
            have t16 := zc_ga261 hσ_2 (zc_p256_5 kthis) (σ_2 (this + 3) x3_2)
            refine zr_aload_n (pc := 83) hV dX7_worth_83 rfl rfl ?_
            refine zr_getR (pc := 84) hV 4 (this + 5) dX7_worth_84 fX7_22 rfl rfl (zc_k256 kthis) (zc_pos kthis rfl) (zc_g256_4 hσ_2 kthis) (zc_pos (zc_p256_5 kthis) rfl).1 ?_
            refine zr_aload_n (pc := 87) hV dX7_worth_87 rfl rfl ?_
            refine zr_getR (pc := 88) hV 3 (this + 4) dX7_worth_88 fX7_19 rfl rfl (zc_k256 kthis) (zc_pos kthis rfl) (zc_g256_3 hσ_2 kthis) (zc_pos (zc_p256_4 kthis) rfl).1 ?_
            refine zr_iload_n (pc := 91) hV dX7_worth_91 rfl rfl ?_
            refine zr_iald (pc := 92) hV dX7_worth_92 (zc_k260 (zc_p256_4 kthis)) (zc_pos (zc_p256_4 kthis) rfl) rfl (by omega) ?_
            have t17 := zc_ga260 hσ_2 (zc_p256_4 kthis) x3_2
            have t18 : σ_2 (this + 4) x3_2 = σ (this + 4) x3_2 := hFσ_2 _ _ (zc_out_ar (zc_p256_4 kthis) rfl)
            refine zr_iald (pc := 93) hV dX7_worth_93 (zc_k261 (zc_p256_5 kthis)) (zc_pos (zc_p256_5 kthis) rfl) rfl (by omega) ?_
            have t19 := zc_ga261 hσ_2 (zc_p256_5 kthis) (σ_2 (this + 4) x3_2)
            refine zr_iload_n (pc := 94) hV dX7_worth_94 rfl rfl ?_
            refine zr_callSp (pc := 95) hV [ZI (σ_2 (this + 1) x3_2), ZI (σ_2 (this + 5) (σ_2 (this + 3) x3_2)), ZI (σ_2 (this + 5) (σ_2 (this + 4) x3_2)), ZI wordMask] (st := [ZI x3_2, ZR (this + 5)]) (c_X3_combine (σ := σ_2) (σ_2 (this + 1) x3_2) (σ_2 (this + 5) (σ_2 (this + 3) x3_2)) (σ_2 (this + 5) (σ_2 (this + 4) x3_2)) wordMask (by omega) (by omega) (by omega) (by omega)) dX7_worth_95 mX7_90 (by decide) (Nat.le_of_ble_eq_true rfl) (Nat.le_refl _) (fun r95 hr95 pr95 => ?_)
            refine zr_iast (pc := 98) hV dX7_worth_98 (zc_k261 (zc_p256_5 kthis)) (zc_pos (zc_p256_5 kthis) rfl) rfl (by omega) (fun σ98 eσ98 => ?_)
            have hσ98 : zc_T σ98 := zc_ua261 eσ98 hσ_2 (zc_p256_5 kthis) (by omega)
            have hFσ98 := zc_Fa eσ98 (zc_p256_5 kthis) rfl hFσ_2
            show V 99 [some (ZR this), some (ZR 142), some (ZI wordMask), some (ZI x3_2)] [] 284 σ98
            refine zr_iinc (pc := 99) hV [some (ZR this), some (ZR 142), some (ZI wordMask), some (ZI (x3_2 + 1))] (x3_2 + 1) dX7_worth_99 rfl rfl (by decide) rfl rfl ?_
            refine zr_goto (pc := 102) hV 2 dX7_worth_102 (by decide) ?_
            exact ih2 (x3_2 + 1) σ98 (by omega) hσ98 hFσ98 (by omega)
          · show V 46 [some (ZR this), some (ZR 142), some (ZI wordMask), some (ZI x3_2)] [] 284 σ_2
            refine zr_aload_n (pc := 46) hV dX7_worth_46 rfl rfl ?_
            refine zr_getR (pc := 47) hV 4 (this + 5) dX7_worth_47 fX7_22 rfl rfl (zc_k256 kthis) (zc_pos kthis rfl) (zc_g256_4 hσ_2 kthis) (zc_pos (zc_p256_5 kthis) rfl).1 ?_
            refine zr_iload_n (pc := 50) hV dX7_worth_50 rfl rfl ?_
            refine zr_aload_n (pc := 51) hV dX7_worth_51 rfl rfl ?_
            refine zr_getR (pc := 52) hV 1 (this + 2) dX7_worth_52 fX7_13 rfl rfl (zc_k256 kthis) (zc_pos kthis rfl) (zc_g256_1 hσ_2 kthis) (zc_pos (zc_p256_2 kthis) rfl).1 ?_
            refine zr_iload_n (pc := 55) hV dX7_worth_55 rfl rfl ?_
            refine zr_iald (pc := 56) hV dX7_worth_56 (zc_k258 (zc_p256_2 kthis)) (zc_pos (zc_p256_2 kthis) rfl) rfl (by omega) ?_
            have t20 := zc_ga258 hσ_2 (zc_p256_2 kthis) x3_2
            have t21 : σ_2 (this + 2) x3_2 = σ (this + 2) x3_2 := hFσ_2 _ _ (zc_out_ar (zc_p256_2 kthis) rfl)
            refine zr_iast (pc := 57) hV dX7_worth_57 (zc_k261 (zc_p256_5 kthis)) (zc_pos (zc_p256_5 kthis) rfl) rfl (by omega) (fun σ57 eσ57 => ?_)
            have hσ57 : zc_T σ57 := zc_ua261 eσ57 hσ_2 (zc_p256_5 kthis) (by omega)
            have hFσ57 := zc_Fa eσ57 (zc_p256_5 kthis) rfl hFσ_2
            refine zr_goto (pc := 58) hV 99 dX7_worth_58 (by decide) ?_
            show V 99 [some (ZR this), some (ZR 142), some (ZI wordMask), some (ZI x3_2)] [] 284 σ57
            refine zr_iinc (pc := 99) hV [some (ZR this), some (ZR 142), some (ZI wordMask), some (ZI (x3_2 + 1))] (x3_2 + 1) dX7_worth_99 rfl rfl (by decide) rfl rfl ?_
            refine zr_goto (pc := 102) hV 2 dX7_worth_102 (by decide) ?_
            exact ih2 (x3_2 + 1) σ57 (by omega) hσ57 hFσ57 (by omega)
        · show V 18 [some (ZR this), some (ZR 142), some (ZI wordMask), some (ZI x3_2)] [] 284 σ_2
          refine zr_aload_n (pc := 18) hV dX7_worth_18 rfl rfl ?_
          refine zr_getR (pc := 19) hV 4 (this + 5) dX7_worth_19 fX7_22 rfl rfl (zc_k256 kthis) (zc_pos kthis rfl) (zc_g256_4 hσ_2 kthis) (zc_pos (zc_p256_5 kthis) rfl).1 ?_
          refine zr_iload_n (pc := 22) hV dX7_worth_22 rfl rfl ?_
          refine zr_aload_n (pc := 23) hV dX7_worth_23 rfl rfl ?_
          refine zr_aload_n (pc := 24) hV dX7_worth_24 rfl rfl ?_
          refine zr_getR (pc := 25) hV 1 (this + 2) dX7_worth_25 fX7_13 rfl rfl (zc_k256 kthis) (zc_pos kthis rfl) (zc_g256_1 hσ_2 kthis) (zc_pos (zc_p256_2 kthis) rfl).1 ?_
          refine zr_iload_n (pc := 28) hV dX7_worth_28 rfl rfl ?_
          refine zr_iald (pc := 29) hV dX7_worth_29 (zc_k258 (zc_p256_2 kthis)) (zc_pos (zc_p256_2 kthis) rfl) rfl (by omega) ?_
          have t22 := zc_ga258 hσ_2 (zc_p256_2 kthis) x3_2
          have t23 : σ_2 (this + 2) x3_2 = σ (this + 2) x3_2 := hFσ_2 _ _ (zc_out_ar (zc_p256_2 kthis) rfl)
          refine zr_bipush (pc := 30) hV 7 dX7_worth_30 (by decide) ?_
          refine zr_iand (pc := 32) hV dX7_worth_32 ?_
          have t24 := zq_and_mask (σ_2 (this + 2) x3_2) 3 7 8 (by decide) (by decide) (by decide)
          refine zr_iald (pc := 33) hV dX7_worth_33 (zc_k142 zc_s142) (zc_pos zc_s142 rfl) rfl (by omega) ?_
          have t25 := zc_ga142 hσ_2 zc_s142 (zq_and (σ_2 (this + 2) x3_2) 7)
          have t26 : σ_2 142 (zq_and (σ_2 (this + 2) x3_2) 7) = σ 142 (zq_and (σ_2 (this + 2) x3_2) 7) := hFσ_2 _ _ (zc_out_ar zc_s142 rfl)
          refine zr_iast (pc := 34) hV dX7_worth_34 (zc_k261 (zc_p256_5 kthis)) (zc_pos (zc_p256_5 kthis) rfl) rfl (by omega) (fun σ34 eσ34 => ?_)
          have hσ34 : zc_T σ34 := zc_ua261 eσ34 hσ_2 (zc_p256_5 kthis) (by omega)
          have hFσ34 := zc_Fa eσ34 (zc_p256_5 kthis) rfl hFσ_2
          refine zr_goto (pc := 35) hV 99 dX7_worth_35 (by decide) ?_
          show V 99 [some (ZR this), some (ZR 142), some (ZI wordMask), some (ZI x3_2)] [] 284 σ34
          refine zr_iinc (pc := 99) hV [some (ZR this), some (ZR 142), some (ZI wordMask), some (ZI (x3_2 + 1))] (x3_2 + 1) dX7_worth_99 rfl rfl (by decide) rfl rfl ?_
          refine zr_goto (pc := 102) hV 2 dX7_worth_102 (by decide) ?_
          exact ih2 (x3_2 + 1) σ34 (by omega) hσ34 hFσ34 (by omega)
  exact L2 (39 - (0 : Int) + 1 : Int).toNat 0 σ (by omega) hσ hFσ (by omega)
