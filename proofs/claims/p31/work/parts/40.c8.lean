set_option maxHeartbeats 800000 in
theorem c_X7_root {σ : zq_S} (hσ : zc_T σ) (this : Int) (kthis : zc_kd this = 256)  : zq_C zc_w yX7_root cX7_root 1 (some .int) 0 0 284 284 [ZR this] σ (zq_pp σ (fun r => ((-1) ≤ r ∧ r ≤ 38) ∧ r = σ this 5 - 1)) := by
  refine zq_C_of (by decide) (Nat.le_refl _) (Nat.le_of_ble_eq_true rfl) [some (ZR this)] rfl (fun V hV => ?_)
  have pothis := zc_pos kthis rfl
  show V 0 [some (ZR this)] [] 284 σ
  refine zr_aload_n (pc := 0) hV dX7_root_0 rfl rfl ?_
  refine zr_getI (pc := 1) hV 5 dX7_root_1 fX7_31 rfl rfl (zc_k256 kthis) (zc_pos kthis rfl) ?_
  have t1 := zc_g256_5 hσ kthis
  refine zr_iconst (pc := 4) hV 1 dX7_root_4 rfl ?_
  refine zr_isub (pc := 5) hV dX7_root_5 ?_
  exact zr_iret (pc := 6) hV dX7_root_6 rfl rfl ⟨rfl, _, rfl, (by omega), (by omega)⟩
set_option maxHeartbeats 800000 in
theorem c_X7_isVariable {σ : zq_S} (hσ : zc_T σ) (this : Int) (kthis : zc_kd this = 256) (node : Int) (q0 : 0 ≤ node ∧ node ≤ 38) : zq_C zc_w yX7_isVariable cX7_isVariable 2 (some .boolean) 0 0 284 284 [ZR this, ZI node] σ (zq_pp σ (fun r => (0 ≤ r ∧ r ≤ 1))) := by
  refine zq_C_of (by decide) (Nat.le_refl _) (Nat.le_of_ble_eq_true rfl) [some (ZR this), some (ZI node)] rfl (fun V hV => ?_)
  have pothis := zc_pos kthis rfl
  show V 0 [some (ZR this), some (ZI node)] [] 284 σ
  refine zr_aload_n (pc := 0) hV dX7_isVariable_0 rfl rfl ?_
  refine zr_getR (pc := 1) hV 0 (this + 1) dX7_isVariable_1 fX7_9 rfl rfl (zc_k256 kthis) (zc_pos kthis rfl) (zc_g256_0 hσ kthis) (zc_pos (zc_p256_1 kthis) rfl).1 ?_
  refine zr_iload_n (pc := 4) hV dX7_isVariable_4 rfl rfl ?_
  refine zr_iald (pc := 5) hV dX7_isVariable_5 (zc_k257 (zc_p256_1 kthis)) (zc_pos (zc_p256_1 kthis) rfl) rfl (by omega) ?_
  have t1 := zc_ga257 hσ (zc_p256_1 kthis) node
  refine zr_iconst (pc := 6) hV 1 dX7_isVariable_6 rfl ?_
  refine zr_icmp_ne (pc := 7) hV 14 dX7_isVariable_7 (by decide) (by omega) ⟨by decide, by decide⟩ (fun c2 => ?_) (fun c2 => ?_)
  · show V 14 [some (ZR this), some (ZI node)] [] 284 σ
    refine zr_iconst (pc := 14) hV 0 dX7_isVariable_14 rfl ?_
    show V 15 [some (ZR this), some (ZI node)] [ZI 0] 284 σ
    exact zr_zret (pc := 15) hV dX7_isVariable_15 rfl rfl (by omega) ⟨rfl, _, rfl, ⟨by decide, by decide⟩, (by omega)⟩
  · show V 10 [some (ZR this), some (ZI node)] [] 284 σ
    refine zr_iconst (pc := 10) hV 1 dX7_isVariable_10 rfl ?_
    refine zr_goto (pc := 11) hV 15 dX7_isVariable_11 (by decide) ?_
    show V 15 [some (ZR this), some (ZI node)] [ZI 1] 284 σ
    exact zr_zret (pc := 15) hV dX7_isVariable_15 rfl rfl (by omega) ⟨rfl, _, rfl, ⟨by decide, by decide⟩, (by omega)⟩
set_option maxHeartbeats 800000 in
theorem c_X7_isLiteral {σ : zq_S} (hσ : zc_T σ) (this : Int) (kthis : zc_kd this = 256) (node : Int) (q0 : 0 ≤ node ∧ node ≤ 38) : zq_C zc_w yX7_isLiteral cX7_isLiteral 2 (some .boolean) 0 0 284 284 [ZR this, ZI node] σ (zq_pp σ (fun r => (0 ≤ r ∧ r ≤ 1))) := by
  refine zq_C_of (by decide) (Nat.le_refl _) (Nat.le_of_ble_eq_true rfl) [some (ZR this), some (ZI node)] rfl (fun V hV => ?_)
  have pothis := zc_pos kthis rfl
  show V 0 [some (ZR this), some (ZI node)] [] 284 σ
  refine zr_aload_n (pc := 0) hV dX7_isLiteral_0 rfl rfl ?_
  refine zr_getR (pc := 1) hV 0 (this + 1) dX7_isLiteral_1 fX7_9 rfl rfl (zc_k256 kthis) (zc_pos kthis rfl) (zc_g256_0 hσ kthis) (zc_pos (zc_p256_1 kthis) rfl).1 ?_
  refine zr_iload_n (pc := 4) hV dX7_isLiteral_4 rfl rfl ?_
  refine zr_iald (pc := 5) hV dX7_isLiteral_5 (zc_k257 (zc_p256_1 kthis)) (zc_pos (zc_p256_1 kthis) rfl) rfl (by omega) ?_
  have t1 := zc_ga257 hσ (zc_p256_1 kthis) node
  refine zr_iconst (pc := 6) hV 2 dX7_isLiteral_6 rfl ?_
  refine zr_icmp_ne (pc := 7) hV 14 dX7_isLiteral_7 (by decide) (by omega) ⟨by decide, by decide⟩ (fun c2 => ?_) (fun c2 => ?_)
  · show V 14 [some (ZR this), some (ZI node)] [] 284 σ
    refine zr_iconst (pc := 14) hV 0 dX7_isLiteral_14 rfl ?_
    show V 15 [some (ZR this), some (ZI node)] [ZI 0] 284 σ
    exact zr_zret (pc := 15) hV dX7_isLiteral_15 rfl rfl (by omega) ⟨rfl, _, rfl, ⟨by decide, by decide⟩, (by omega)⟩
  · show V 10 [some (ZR this), some (ZI node)] [] 284 σ
    refine zr_iconst (pc := 10) hV 1 dX7_isLiteral_10 rfl ?_
    refine zr_goto (pc := 11) hV 15 dX7_isLiteral_11 (by decide) ?_
    show V 15 [some (ZR this), some (ZI node)] [ZI 1] 284 σ
    exact zr_zret (pc := 15) hV dX7_isLiteral_15 rfl rfl (by omega) ⟨rfl, _, rfl, ⟨by decide, by decide⟩, (by omega)⟩
