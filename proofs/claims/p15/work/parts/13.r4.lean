set_option maxHeartbeats 800000 in
theorem c_X12_field {σ : zq_S} (hσ : zx_T σ) (bits field : Int) (q0 : zq_in bits) (q1 : zq_in field) (Oσ : zx_O σ) : zq_C zx_w yX12_field cX12_field 4 (some .int) 2 47 41 41 [ZR 0, ZI bits, ZI field] σ (zq_pp σ (fun r => True)) := by
  refine zq_C_of (by decide) (Nat.le_refl _) (Nat.le_of_ble_eq_true rfl) [some (ZR 0), some (ZI bits), some (ZI field), none] rfl (fun V hV => ?_)
  show V 0 [some (ZR 0), some (ZI bits), some (ZI field), none] [] 41 σ
  refine zr_aload_n (pc := 0) hV dX12_field_0 rfl rfl ?_
  refine zr_iload_n (pc := 1) hV dX12_field_1 rfl rfl ?_
  refine zr_callVp (pc := 2) hV [ZI bits] (st := []) (c_X12_isBits (σ := σ) hσ bits (by omega)) dX12_field_2 mX12_280 rfl (by decide) (by decide) (Nat.le_of_ble_eq_true rfl) (Nat.le_refl _) (fun r2 hr2 pr2 => ?_)
  have t1 := zx_g2 hσ
  refine zr_if_eq (pc := 5) hV 20 dX12_field_5 (by decide) (by omega) (fun c2 => ?_) (fun c2 => ?_)
  · show V 20 [some (ZR 0), some (ZI bits), some (ZI field), none] [] 41 σ
    refine zr_iconst (pc := 20) hV (-1) dX12_field_20 rfl ?_
    exact zr_iret (pc := 21) hV dX12_field_21 rfl rfl ⟨rfl, _, rfl, ⟨by decide, by decide⟩, trivial⟩
  · show V 8 [some (ZR 0), some (ZI bits), some (ZI field), none] [] 41 σ
    refine zr_iload_n (pc := 8) hV dX12_field_8 rfl rfl ?_
    refine zr_i2l (pc := 9) hV dX12_field_9 (by omega) ?_
    refine zr_lconst (pc := 10) hV 0 dX12_field_10 (by decide) ?_
    refine zr_ldc2 (pc := 11) (v := 3) hV 3 dX12_field_11 kX12_174 (by decide) ?_
    refine zr_callSp (pc := 14) hV [ZL field, ZL 0, ZL 3] (st := []) (c_X12_in (σ := σ) field 0 3 (by omega) (by omega) (by omega)) dX12_field_14 mX12_170 (by decide) (Nat.le_of_ble_eq_true rfl) (Nat.le_refl _) (fun r14 hr14 pr14 => ?_)
    refine zr_if_ne (pc := 17) hV 22 dX12_field_17 (by decide) (by omega) (fun c3 => ?_) (fun c3 => ?_)
    · show V 22 [some (ZR 0), some (ZI bits), some (ZI field), none] [] 41 σ
      refine zr_aload_n (pc := 22) hV dX12_field_22 rfl rfl ?_
      refine zr_iload_n (pc := 23) hV dX12_field_23 rfl rfl ?_
      refine zr_callVp (pc := 24) hV [ZI bits] (st := []) (c_X12_orderOf (σ := σ) hσ bits (by omega)) dX12_field_24 mX12_286 rfl (by decide) (by decide) (Nat.le_of_ble_eq_true rfl) (Nat.le_refl _) (fun r24 hr24 pr24 => ?_)
      have t4 := zx_g3 hσ
      refine zr_istore_n (pc := 27) hV [some (ZR 0), some (ZI bits), some (ZI field), some (ZI r24)] dX12_field_27 rfl (by decide) rfl rfl ?_
      refine zr_iload_n (pc := 28) hV dX12_field_28 rfl rfl ?_
      refine zr_if_lt (pc := 29) hV 41 dX12_field_29 (by decide) (by omega) (fun c5 => ?_) (fun c5 => ?_)
      · show V 41 [some (ZR 0), some (ZI bits), some (ZI field), some (ZI r24)] [] 41 σ
        refine zr_bipush (pc := 41) hV (-4) dX12_field_41 (by decide) ?_
        refine zr_goto (pc := 43) hV 53 dX12_field_43 (by decide) ?_
        show V 53 [some (ZR 0), some (ZI bits), some (ZI field), some (ZI r24)] [ZI (-4)] 41 σ
        exact zr_iret (pc := 53) hV dX12_field_53 rfl rfl ⟨rfl, _, rfl, ⟨by decide, by decide⟩, trivial⟩
      · show V 32 [some (ZR 0), some (ZI bits), some (ZI field), some (ZI r24)] [] 41 σ
        refine zr_aload_n (pc := 32) hV dX12_field_32 rfl rfl ?_
        refine zr_iload_n (pc := 33) hV dX12_field_33 rfl rfl ?_
        refine zr_iload_n (pc := 34) hV dX12_field_34 rfl rfl ?_
        refine zr_callVp (pc := 35) hV [ZI r24, ZI field] (st := []) (c_X12_hasField (σ := σ) hσ r24 field (by omega) (by omega)) dX12_field_35 mX12_188 rfl (by decide) (by decide) (Nat.le_of_ble_eq_true rfl) (Nat.le_refl _) (fun r35 hr35 pr35 => ?_)
        have t6 := zx_g2 hσ
        refine zr_if_ne (pc := 38) hV 46 dX12_field_38 (by decide) (by omega) (fun c7 => ?_) (fun c7 => ?_)
        · show V 46 [some (ZR 0), some (ZI bits), some (ZI field), some (ZI r24)] [] 41 σ
          refine zr_aload_n (pc := 46) hV dX12_field_46 rfl rfl ?_
          refine zr_iload_n (pc := 47) hV dX12_field_47 rfl rfl ?_
          refine zr_iload_n (pc := 48) hV dX12_field_48 rfl rfl ?_
          refine zr_iload_n (pc := 49) hV dX12_field_49 rfl rfl ?_
          refine zr_callVp (pc := 50) hV [ZI r24, ZI bits, ZI field] (st := []) (c_X12_fieldOf (σ := σ) hσ r24 bits field (by omega) (by omega) (by omega) (Oσ r24 (by omega) (by omega)).2) dX12_field_50 mX12_289 rfl (by decide) (by decide) (Nat.le_of_ble_eq_true rfl) (Nat.le_refl _) (fun r50 hr50 pr50 => ?_)
          show V 53 [some (ZR 0), some (ZI bits), some (ZI field), some (ZI r24)] [ZI r50] 41 σ
          exact zr_iret (pc := 53) hV dX12_field_53 rfl rfl ⟨rfl, _, rfl, (by omega), trivial⟩
        · show V 41 [some (ZR 0), some (ZI bits), some (ZI field), some (ZI r24)] [] 41 σ
          refine zr_bipush (pc := 41) hV (-4) dX12_field_41 (by decide) ?_
          refine zr_goto (pc := 43) hV 53 dX12_field_43 (by decide) ?_
          show V 53 [some (ZR 0), some (ZI bits), some (ZI field), some (ZI r24)] [ZI (-4)] 41 σ
          exact zr_iret (pc := 53) hV dX12_field_53 rfl rfl ⟨rfl, _, rfl, ⟨by decide, by decide⟩, trivial⟩
    · show V 20 [some (ZR 0), some (ZI bits), some (ZI field), none] [] 41 σ
      refine zr_iconst (pc := 20) hV (-1) dX12_field_20 rfl ?_
      exact zr_iret (pc := 21) hV dX12_field_21 rfl rfl ⟨rfl, _, rfl, ⟨by decide, by decide⟩, trivial⟩
