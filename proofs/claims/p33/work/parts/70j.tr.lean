set_option maxHeartbeats 800000 in
theorem c_X12_room3 {σ : zq_S} (hσ : zx_T σ) (a c : Int) (q0 : zq_in a) (q1 : zq_in c) (Mσ : zx_M σ) (Oσ : zx_O σ) (Wσ : zx_W σ) : zq_C zx_w yX12_room cX12_room 3 (some .int) 4 99 41 41 [ZR 0, ZI a, ZI c] σ (zq_pi (fun r τ => zx_T τ ∧ (∀ a i : Int, (¬ (a = 0 ∧ i = 30) ∧ ¬ (a = 0 ∧ i = 61) ∧ a ≠ 18) → τ a i = σ a i) ∧ ((¬ (0 ≤ a ∧ a < σ 0 3 ∧ 0 ≤ c ∧ c < σ 0 3) → r = -1)) ∧ zq_hid (0 ≤ a ∧ a < σ 0 3 ∧ 0 ≤ c ∧ c < σ 0 3 → zt_rr σ a c r) ∧ zx_M τ ∧ zx_O τ ∧ zx_W τ)) := by
  refine zq_C_of (by decide) (Nat.le_refl _) (Nat.le_of_ble_eq_true rfl) [some (ZR 0), some (ZI a), some (ZI c)] rfl (fun V hV => ?_)
  show V 0 [some (ZR 0), some (ZI a), some (ZI c)] [] 41 σ
  refine zr_aload_n (pc := 0) hV dX12_room_0 rfl rfl ?_
  refine zr_iload_n (pc := 1) hV dX12_room_1 rfl rfl ?_
  refine zr_callVp (pc := 2) hV [ZI a] (st := []) (c_X12_isOrder (σ := σ) hσ a (by omega)) dX12_room_2 mX12_271 rfl (by decide) (by decide) (Nat.le_of_ble_eq_true rfl) (Nat.le_refl _) (fun r2 hr2 pr2 => ?_)
  have t1 := zx_g3 hσ
  refine zr_if_eq (pc := 5) hV 25 dX12_room_5 (by decide) (by omega) (fun c2 => ?_) (fun c2 => ?_)
  · show V 25 [some (ZR 0), some (ZI a), some (ZI c)] [] 41 σ
    refine zr_iconst (pc := 25) hV (-1) dX12_room_25 rfl ?_
    show V 26 [some (ZR 0), some (ZI a), some (ZI c)] [ZI (-1)] 41 σ
    exact zr_iret (pc := 26) hV dX12_room_26 rfl rfl ⟨_, rfl, ⟨by decide, by decide⟩, hσ, (fun a i _ => rfl), (by omega), (show 0 ≤ a ∧ a < σ 0 3 ∧ 0 ≤ c ∧ c < σ 0 3 → zt_rr σ a c ((-1) : Int) from (fun h => absurd h (by omega))), Mσ, Oσ, Wσ⟩
  · show V 8 [some (ZR 0), some (ZI a), some (ZI c)] [] 41 σ
    refine zr_aload_n (pc := 8) hV dX12_room_8 rfl rfl ?_
    refine zr_iload_n (pc := 9) hV dX12_room_9 rfl rfl ?_
    refine zr_callVp (pc := 10) hV [ZI c] (st := []) (c_X12_isOrder (σ := σ) hσ c (by omega)) dX12_room_10 mX12_271 rfl (by decide) (by decide) (Nat.le_of_ble_eq_true rfl) (Nat.le_refl _) (fun r10 hr10 pr10 => ?_)
    have t3 := zx_g3 hσ
    refine zr_if_eq (pc := 13) hV 25 dX12_room_13 (by decide) (by omega) (fun c4 => ?_) (fun c4 => ?_)
    · show V 25 [some (ZR 0), some (ZI a), some (ZI c)] [] 41 σ
      refine zr_iconst (pc := 25) hV (-1) dX12_room_25 rfl ?_
      show V 26 [some (ZR 0), some (ZI a), some (ZI c)] [ZI (-1)] 41 σ
      exact zr_iret (pc := 26) hV dX12_room_26 rfl rfl ⟨_, rfl, ⟨by decide, by decide⟩, hσ, (fun a i _ => rfl), (by omega), (show 0 ≤ a ∧ a < σ 0 3 ∧ 0 ≤ c ∧ c < σ 0 3 → zt_rr σ a c ((-1) : Int) from (fun h => absurd h (by omega))), Mσ, Oσ, Wσ⟩
    · show V 16 [some (ZR 0), some (ZI a), some (ZI c)] [] 41 σ
      refine zr_aload_n (pc := 16) hV dX12_room_16 rfl rfl ?_
      refine zr_iload_n (pc := 17) hV dX12_room_17 rfl rfl ?_
      refine zr_iload_n (pc := 18) hV dX12_room_18 rfl rfl ?_
      have t5 := zx_g3 hσ
      have t6 := zx_g3 hσ
      refine zr_callVi (pc := 19) hV [ZI a, ZI c] (st := []) (c_X12_roomFor3 (σ := σ) hσ a c (by omega) (by omega) Mσ Oσ Wσ) dX12_room_19 mX12_473 rfl (by decide) (by decide) (Nat.le_of_ble_eq_true rfl) (Nat.le_refl _) (fun r19 σ19 hr19 pσ19 => ?_)
      obtain ⟨hσ19, hfσ19, pσ19, wσ19, Mσ19, Oσ19, Wσ19⟩ := pσ19
      have hFσ19 : ∀ a i : Int, (¬ (a = 0 ∧ i = 30) ∧ ¬ (a = 0 ∧ i = 61) ∧ a ≠ 18) → σ19 a i = σ a i := fun a i h => (hfσ19 a i ⟨h.1, h.2.1, h.2.2⟩)
      have t7 := zx_g1 hσ
      have t8 := zx_g2 hσ
      refine zr_goto (pc := 22) hV 26 dX12_room_22 (by decide) ?_
      show V 26 [some (ZR 0), some (ZI a), some (ZI c)] [ZI r19] 41 σ19
      exact zr_iret (pc := 26) hV dX12_room_26 rfl rfl ⟨_, rfl, (by omega), hσ19, hFσ19, (by omega), (show 0 ≤ a ∧ a < σ 0 3 ∧ 0 ≤ c ∧ c < σ 0 3 → zt_rr σ a c r19 from (fun _ => wσ19.1)), Mσ19, Oσ19, Wσ19⟩
