set_option maxHeartbeats 800000 in
theorem c_X11_room_2 {σ : zq_S} (hσ : zc_T σ) (a : Int) (b : Int) (q0 : zq_in a) (q1 : zq_in b) (q2 : ∀ i, 0 ≤ i → i < σ 3 3 → 0 ≤ σ (σ 10 i) 11 ∧ σ (σ 10 i) 11 ≤ 1000) (Uσ : zc_U σ) : zq_C zc_w yX11_room cX11_room 5 (some .int) 5 111 284 284 [ZR 0, ZI a, ZI b] σ (zq_pp σ (fun r => zq_hid ((¬ (0 ≤ a ∧ a < σ 3 3 ∧ 0 ≤ b ∧ b < σ 3 3) → r = -1) ∧ (0 ≤ a ∧ a < σ 3 3 ∧ 0 ≤ b ∧ b < σ 3 3 → zu_rc σ (σ 10 a) (σ 10 b) r)))) := by
  refine zq_C_of (by decide) (Nat.le_refl _) (Nat.le_of_ble_eq_true rfl) [some (ZR 0), some (ZI a), some (ZI b), none, none] rfl (fun V hV => ?_)
  show V 0 [some (ZR 0), some (ZI a), some (ZI b), none, none] [] 284 σ
  refine zr_aload_n (pc := 0) hV dX11_room_0 rfl rfl ?_
  refine zr_getR (pc := 1) hV 1 3 dX11_room_1 fX11_19 rfl rfl (zc_k0 zc_s0) (zc_pos zc_s0 rfl) (zc_g0_1 hσ zc_s0) (by decide) ?_
  refine zr_iload_n (pc := 4) hV dX11_room_4 rfl rfl ?_
  refine zr_callVr (pc := 5) hV [ZI a] (st := []) (c_X9_numbered_2 (σ := σ) hσ a (by omega)) dX11_room_5 mX11_117 (zc_k3 zc_s3) (zc_pos zc_s3 rfl) (by decide) (Nat.le_of_ble_eq_true rfl) (Nat.le_refl _) (fun r5 pr5 => ?_)
  refine zr_astore_nQ (pc := 8) hV [some (ZR 0), some (ZI a), some (ZI b), some (zq_nr r5), none] dX11_room_8 rfl (by decide) rfl rfl ?_
  refine zr_aload_n (pc := 9) hV dX11_room_9 rfl rfl ?_
  refine zr_getR (pc := 10) hV 1 3 dX11_room_10 fX11_19 rfl rfl (zc_k0 zc_s0) (zc_pos zc_s0 rfl) (zc_g0_1 hσ zc_s0) (by decide) ?_
  refine zr_iload_n (pc := 13) hV dX11_room_13 rfl rfl ?_
  refine zr_callVr (pc := 14) hV [ZI b] (st := []) (c_X9_numbered_2 (σ := σ) hσ b (by omega)) dX11_room_14 mX11_117 (zc_k3 zc_s3) (zc_pos zc_s3 rfl) (by decide) (Nat.le_of_ble_eq_true rfl) (Nat.le_refl _) (fun r14 pr14 => ?_)
  refine zr_astoreQ (pc := 17) hV [some (ZR 0), some (ZI a), some (ZI b), some (zq_nr r5), some (zq_nr r14)] dX11_room_17 (by decide) (by simp only [zq_nr]; split <;> rfl) rfl ?_
  refine zr_aload_nQ (pc := 19) hV dX11_room_19 rfl rfl ?_
  by_cases c1 : r5 < 0
  · rw [zq_nr_n c1]
    refine zr_ifnullN (pc := 20) hV 28 dX11_room_20 (by decide) ?_
    show V 28 [some (ZR 0), some (ZI a), some (ZI b), some (ZN), some (zq_nr r14)] [] 284 σ
    refine zr_iconst (pc := 28) hV (-1) dX11_room_28 rfl ?_
    refine zr_goto (pc := 29) hV 42 dX11_room_29 (by decide) ?_
    show V 42 [some (ZR 0), some (ZI a), some (ZI b), some (ZN), some (zq_nr r14)] [ZI (-1)] 284 σ
    exact zr_iret (pc := 42) hV dX11_room_42 rfl rfl ⟨rfl, _, rfl, ⟨by decide, by decide⟩, ⟨fun _ => rfl, fun h => by first | exact absurd ⟨h.1, h.2.1⟩ (pr5.2.2 (by omega)) | exact absurd ⟨h.2.2.1, h.2.2.2⟩ (pr14.2.2 (by omega))⟩⟩
  · rw [zq_nr_p c1]
    have kr5 : zc_kd r5 = 4 := pr5.1 (by omega)
    have por5 := zc_pos kr5 rfl
    refine zr_ifnull (pc := 20) hV dX11_room_20 ?_
    show V 23 [some (ZR 0), some (ZI a), some (ZI b), some (ZR r5), some (zq_nr r14)] [] 284 σ
    refine zr_aloadQ (pc := 23) hV dX11_room_23 rfl ?_
    by_cases c2 : r14 < 0
    · rw [zq_nr_n c2]
      refine zr_ifnonnullN (pc := 25) hV dX11_room_25 ?_
      show V 28 [some (ZR 0), some (ZI a), some (ZI b), some (ZR r5), some (ZN)] [] 284 σ
      refine zr_iconst (pc := 28) hV (-1) dX11_room_28 rfl ?_
      refine zr_goto (pc := 29) hV 42 dX11_room_29 (by decide) ?_
      show V 42 [some (ZR 0), some (ZI a), some (ZI b), some (ZR r5), some (ZN)] [ZI (-1)] 284 σ
      exact zr_iret (pc := 42) hV dX11_room_42 rfl rfl ⟨rfl, _, rfl, ⟨by decide, by decide⟩, ⟨fun _ => rfl, fun h => by first | exact absurd ⟨h.1, h.2.1⟩ (pr5.2.2 (by omega)) | exact absurd ⟨h.2.2.1, h.2.2.2⟩ (pr14.2.2 (by omega))⟩⟩
    · rw [zq_nr_p c2]
      have kr14 : zc_kd r14 = 4 := pr14.1 (by omega)
      have por14 := zc_pos kr14 rfl
      refine zr_ifnonnull (pc := 25) hV 32 dX11_room_25 (by decide) ?_
      show V 32 [some (ZR 0), some (ZI a), some (ZI b), some (ZR r5), some (ZR r14)] [] 284 σ
      have u5 := pr5.2.1 (by omega)
      have u14 := pr14.2.1 (by omega)
      have h5 : 0 ≤ σ r5 11 ∧ σ r5 11 ≤ 1000 := by rw [u5.2.2]; exact q2 a u5.1 u5.2.1
      have h14 : 0 ≤ σ r14 11 ∧ σ r14 11 ≤ 1000 := by rw [u14.2.2]; exact q2 b u14.1 u14.2.1
      refine zr_aload_n (pc := 32) hV dX11_room_32 rfl rfl ?_
      refine zr_getR (pc := 33) hV 1 3 dX11_room_33 fX11_19 rfl rfl (zc_k0 zc_s0) (zc_pos zc_s0 rfl) (zc_g0_1 hσ zc_s0) (by decide) ?_
      refine zr_aload_n (pc := 36) hV dX11_room_36 rfl rfl ?_
      refine zr_aload (pc := 37) hV dX11_room_37 rfl ?_
      have t3 := zc_g4_11 hσ kr5
      have t4 := zc_g4_11 hσ kr14
      refine zr_callVp (pc := 39) hV [ZR r5, ZR r14] (st := []) (c_X9_roomFor_2 (σ := σ) hσ r5 kr5 r14 kr14 (by omega) (by omega)) dX11_room_39 mX11_260 (zc_k3 zc_s3) (zc_pos zc_s3 rfl) (by decide) (Nat.le_of_ble_eq_true rfl) (Nat.le_refl _) (fun r39 hr39 pr39 => ?_)
      have t5 := zc_g3_2 hσ zc_s3
      show V 42 [some (ZR 0), some (ZI a), some (ZI b), some (ZR r5), some (ZR r14)] [ZI r39] 284 σ
      exact zr_iret (pc := 42) hV dX11_room_42 rfl rfl ⟨rfl, _, rfl, (by omega), ⟨fun h => absurd ⟨u5.1, u5.2.1, u14.1, u14.2.1⟩ h, fun _ => by rw [← u5.2.2, ← u14.2.2]; exact pr39.2⟩⟩
