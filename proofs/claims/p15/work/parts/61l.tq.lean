set_option maxHeartbeats 800000 in
theorem c_X12_roomFor3 {σ : zq_S} (hσ : zx_T σ) (a c : Int) (q0 : 0 ≤ a ∧ a < σ 0 3) (q1 : 0 ≤ c ∧ c < σ 0 3) (Mσ : zx_M σ) (Oσ : zx_O σ) (Wσ : zx_W σ) : zq_C zx_w yX12_roomFor cX12_roomFor 11 (some .int) 3 69 41 41 [ZR 0, ZI a, ZI c] σ (zq_pi (fun r τ => zx_T τ ∧ (∀ a i : Int, (¬ (a = 0 ∧ i = 30) ∧ ¬ (a = 0 ∧ i = 61) ∧ a ≠ 18) → τ a i = σ a i) ∧ (-2 ≤ r ∧ r ≤ 4095) ∧ zq_hid (zt_room (zt_hl σ) (zt_cr σ a c ∧ (zx_rb (zq_or (zx_fm σ a 4) (zx_fm σ c 4)) (if 0 < zx_cnt σ a 3 (σ 0 2) then zx_cnt σ a 3 (σ 0 2) else zx_cnt σ c 3 (σ 0 2)) (σ 0 1)) < σ 0 2) (zx_p2 (zx_rb (zq_or (zx_fm σ a 4) (zx_fm σ c 4)) (if 0 < zx_cnt σ a 3 (σ 0 2) then zx_cnt σ a 3 (σ 0 2) else zx_cnt σ c 3 (σ 0 2)) (σ 0 1))) (zx_p2 (σ 0 2)) r ∧ (0 ≤ r → σ 5 a + σ 5 c ≤ 3 ∧ σ 7 a + σ 7 c ≤ 10 ∧ τ 0 61 = zx_rb (zq_or (zx_fm σ a 4) (zx_fm σ c 4)) (if 0 < zx_cnt σ a 3 (σ 0 2) then zx_cnt σ a 3 (σ 0 2) else zx_cnt σ c 3 (σ 0 2)) (σ 0 1) ∧ 0 ≤ τ 0 61 ∧ τ 0 61 < σ 0 2)) ∧ zx_M τ ∧ zx_O τ ∧ zx_W τ)) := by
  refine zq_C_of (by decide) (Nat.le_refl _) (Nat.le_of_ble_eq_true rfl) [some (ZR 0), some (ZI a), some (ZI c), none, none, none, none, none, none, none, none] rfl (fun V hV => ?_)
  have z3 := zx_g3 hσ
  show V 0 [some (ZR 0), some (ZI a), some (ZI c), none, none, none, none, none, none, none, none] [] 41 σ
  refine zr_aload_n (pc := 0) hV dX12_roomFor_0 rfl rfl ?_
  refine zr_iload_n (pc := 1) hV dX12_roomFor_1 rfl rfl ?_
  refine zr_callVp (pc := 2) hV [ZI a] (st := []) (c_X12_namesOf2 (σ := σ) hσ a (by omega) (Oσ a (by omega) (by omega)).1) dX12_roomFor_2 mX12_332 rfl (by decide) (by decide) (Nat.le_of_ble_eq_true rfl) (Nat.le_refl _) (fun r2 hr2 pr2 => ?_)
  refine zr_aload_n (pc := 5) hV dX12_roomFor_5 rfl rfl ?_
  refine zr_iload_n (pc := 6) hV dX12_roomFor_6 rfl rfl ?_
  refine zr_callVp (pc := 7) hV [ZI c] (st := [ZI r2]) (c_X12_namesOf2 (σ := σ) hσ c (by omega) (Oσ c (by omega) (by omega)).1) dX12_roomFor_7 mX12_332 rfl (by decide) (by decide) (Nat.le_of_ble_eq_true rfl) (Nat.le_refl _) (fun r7 hr7 pr7 => ?_)
  refine zr_ior (pc := 10) hV dX12_roomFor_10 ?_
  have t1 := zq_or_b (x := r2) (y := r7) 7 128 (by decide) (by decide) (by omega) (by omega)
  refine zr_istore_n (pc := 11) hV [some (ZR 0), some (ZI a), some (ZI c), some (ZI (zq_or r2 r7)), none, none, none, none, none, none, none] dX12_roomFor_11 rfl (by decide) rfl rfl ?_
  refine zr_aload_n (pc := 12) hV dX12_roomFor_12 rfl rfl ?_
  refine zr_iload_n (pc := 13) hV dX12_roomFor_13 rfl rfl ?_
  refine zr_iconst (pc := 14) hV 3 dX12_roomFor_14 rfl ?_
  refine zr_callVp (pc := 15) hV [ZI a, ZI 3] (st := []) (c_X12_fieldBits (σ := σ) hσ a 3 (by omega) (by omega)) dX12_roomFor_15 mX12_184 rfl (by decide) (by decide) (Nat.le_of_ble_eq_true rfl) (Nat.le_refl _) (fun r15 hr15 pr15 => ?_)
  have t2 := zx_g2 hσ
  refine zr_istore (pc := 18) hV [some (ZR 0), some (ZI a), some (ZI c), some (ZI (zq_or r2 r7)), some (ZI r15), none, none, none, none, none, none] dX12_roomFor_18 (by decide) rfl rfl ?_
  refine zr_aload_n (pc := 20) hV dX12_roomFor_20 rfl rfl ?_
  refine zr_iload_n (pc := 21) hV dX12_roomFor_21 rfl rfl ?_
  refine zr_iconst (pc := 22) hV 3 dX12_roomFor_22 rfl ?_
  refine zr_callVp (pc := 23) hV [ZI c, ZI 3] (st := []) (c_X12_fieldBits (σ := σ) hσ c 3 (by omega) (by omega)) dX12_roomFor_23 mX12_184 rfl (by decide) (by decide) (Nat.le_of_ble_eq_true rfl) (Nat.le_refl _) (fun r23 hr23 pr23 => ?_)
  have t3 := zx_g2 hσ
  refine zr_istore (pc := 26) hV [some (ZR 0), some (ZI a), some (ZI c), some (ZI (zq_or r2 r7)), some (ZI r15), some (ZI r23), none, none, none, none, none] dX12_roomFor_26 (by decide) rfl rfl ?_
  refine zr_aload_n (pc := 28) hV dX12_roomFor_28 rfl rfl ?_
  refine zr_getR (pc := 29) hV 6 3 dX12_roomFor_29 fX12_26 rfl rfl rfl (by decide) (zx_g6 hσ) (by omega) ?_
  refine zr_iload_n (pc := 32) hV dX12_roomFor_32 rfl rfl ?_
  refine zr_iald (pc := 33) hV dX12_roomFor_33 rfl (by decide) rfl (by omega) ?_
  have t4 := zx_ga3 hσ a
  have J110 : ∀ (v0_110 : Int), (0 ≤ v0_110 ∧ v0_110 ≤ 1) → (zq_hid ((v0_110 = 1 → σ 3 a = 0 ∧ σ 3 c = 0 ∧ zq_and (zq_or r2 r7) 16 = 0 ∧ σ 5 a + σ 5 c ≤ 3 ∧ σ 7 a + σ 7 c ≤ 10 ∧ (r15 = 0 ∨ r23 = 0 ∨ r15 = r23)) ∧ (v0_110 = 0 → ¬ (σ 3 a = 0 ∧ σ 3 c = 0 ∧ zq_and (zq_or r2 r7) 16 = 0 ∧ σ 5 a + σ 5 c ≤ 3 ∧ σ 7 a + σ 7 c ≤ 10 ∧ (r15 = 0 ∨ r23 = 0 ∨ r15 = r23))))) → V 110 [some (ZR 0), some (ZI a), some (ZI c), none, some (ZI r15), some (ZI r23), none, none, none, none, none] [ZI v0_110] 41 σ := by
    intro v0_110 hv0_110 hi110_0
    show V 110 [some (ZR 0), some (ZI a), some (ZI c), none, some (ZI r15), some (ZI r23), none, none, none, none, none] [ZI v0_110] 41 σ
    refine zr_istore (pc := 110) hV [some (ZR 0), some (ZI a), some (ZI c), none, some (ZI r15), some (ZI r23), some (ZI v0_110), none, none, none, none] dX12_roomFor_110 (by decide) rfl rfl ?_
    have can : (σ 3 a = 0 ∧ σ 3 c = 0 ∧ zq_and (zq_or r2 r7) 16 = 0 ∧ σ 5 a + σ 5 c ≤ 3 ∧ σ 7 a + σ 7 c ≤ 10 ∧ (r15 = 0 ∨ r23 = 0 ∨ r15 = r23)) ↔ zt_cr σ a c := by unfold zt_cr; rw [zt_p4_two (x := r2) (y := r7) pr2.1 pr7.1 pr2.2 pr7.2, ← pr15.2.2, ← pr23.2.2]
    refine zr_iload (pc := 112) hV dX12_roomFor_112 rfl ?_
    refine zr_if_ne (pc := 114) hV 120 dX12_roomFor_114 (by decide) (by omega) (fun c5 => ?_) (fun c5 => ?_)
    · show V 120 [some (ZR 0), some (ZI a), some (ZI c), none, some (ZI r15), some (ZI r23), some (ZI v0_110), none, none, none, none] [] 41 σ
      have u110 : σ 3 a = 0 ∧ σ 3 c = 0 ∧ zq_and (zq_or r2 r7) 16 = 0 ∧ σ 5 a + σ 5 c ≤ 3 ∧ σ 7 a + σ 7 c ≤ 10 ∧ (r15 = 0 ∨ r23 = 0 ∨ r15 = r23) := hi110_0.1 (by omega)
      refine zr_aload_n (pc := 120) hV dX12_roomFor_120 rfl rfl ?_
      refine zr_iload_n (pc := 121) hV dX12_roomFor_121 rfl rfl ?_
      refine zr_callVp (pc := 122) hV [ZI a] (st := []) (c_X12_fieldMask (σ := σ) hσ a (by omega)) dX12_roomFor_122 mX12_274 rfl (by decide) (by decide) (Nat.le_of_ble_eq_true rfl) (Nat.le_refl _) (fun r122 hr122 pr122 => ?_)
      refine zr_aload_n (pc := 125) hV dX12_roomFor_125 rfl rfl ?_
      refine zr_iload_n (pc := 126) hV dX12_roomFor_126 rfl rfl ?_
      refine zr_callVp (pc := 127) hV [ZI c] (st := [ZI r122]) (c_X12_fieldMask (σ := σ) hσ c (by omega)) dX12_roomFor_127 mX12_274 rfl (by decide) (by decide) (Nat.le_of_ble_eq_true rfl) (Nat.le_refl _) (fun r127 hr127 pr127 => ?_)
      refine zr_ior (pc := 130) hV dX12_roomFor_130 ?_
      have t6 := zq_or_in r122 r127
      refine zr_istore (pc := 131) hV [some (ZR 0), some (ZI a), some (ZI c), none, some (ZI r15), some (ZI r23), some (ZI v0_110), some (ZI (zq_or r122 r127)), none, none, none] dX12_roomFor_131 (by decide) rfl rfl ?_
      refine zr_aload_n (pc := 133) hV dX12_roomFor_133 rfl rfl ?_
      refine zr_iload (pc := 134) hV dX12_roomFor_134 rfl ?_
      refine zr_bipush (pc := 136) hV 8 dX12_roomFor_136 (by decide) ?_
      refine zr_iand (pc := 138) hV dX12_roomFor_138 ?_
      have t7 := zq_and_nnR (x := zq_or r122 r127) (y := 8) (by omega)
      have J158 : ∀ (v0_158 : Int), (0 ≤ v0_158 ∧ v0_158 ≤ 12) → (zq_hid (v0_158 = (if zq_and (zq_or r122 r127) 8 = 0 then 0 else (if 0 < r15 then r15 else r23)))) → V 158 [some (ZR 0), none, none, none, none, none, none, some (ZI (zq_or r122 r127)), none, none, none] [ZI v0_158, ZR 0] 41 σ := by
        intro v0_158 hv0_158 hi158_0
        show V 158 [some (ZR 0), none, none, none, none, none, none, some (ZI (zq_or r122 r127)), none, none, none] [ZI v0_158, ZR 0] 41 σ
        refine zr_putI (pc := 158) hV 61 dX12_roomFor_158 fX12_470 rfl rfl rfl rfl (by decide) (fun σ158 eσ158 => ?_)
        have hσ158 : zx_T σ158 := zx_u61 eσ158 hσ (by omega)
        have hFσ158 : ∀ a i : Int, (¬ (a = 0 ∧ i = 30) ∧ ¬ (a = 0 ∧ i = 61) ∧ a ≠ 18) → σ158 a i = σ a i := fun a i h => by rw [eσ158, zq_up_ne h.2.1]
        have Mσ158 : zx_M σ158 := zx_M_fr (fun i => by rw [eσ158]; exact zq_up_ne (by omega)) (by rw [eσ158]; exact zq_up_ne (by omega)) (by rw [eσ158]; exact zq_up_ne (by omega)) (by rw [eσ158]; exact zq_up_ne (by omega)) Mσ
        have Oσ158 : zx_O σ158 := zx_O_fr (fun i => by rw [eσ158]; exact zq_up_ne (by omega)) (fun i => by rw [eσ158]; exact zq_up_ne (by omega)) (fun i => by rw [eσ158]; exact zq_up_ne (by omega)) (by rw [eσ158]; exact zq_up_ne (by omega)) (by rw [eσ158]; exact zq_up_ne (by omega)) Oσ
        have Wσ158 : zx_W σ158 := zx_W_fr (fun i => by rw [eσ158]; exact zq_up_ne (by omega)) (by rw [eσ158]; exact zq_up_ne (by omega)) (by rw [eσ158]; exact zq_up_ne (by omega)) (by rw [eσ158]; exact zq_up_ne (by omega)) (fun i => by rw [eσ158]; exact zq_up_ne (by omega)) Wσ
        refine zr_iconst (pc := 161) hV 0 dX12_roomFor_161 rfl ?_
        refine zr_istore (pc := 162) hV [some (ZR 0), none, none, none, none, none, none, some (ZI (zq_or r122 r127)), some (ZI 0), none, none] dX12_roomFor_162 (by decide) rfl rfl ?_
        have L164 : ∀ (fuel : Nat) (x8_164 : Int) (σ_164 : zq_S), (0 ≤ x8_164 ∧ x8_164 ≤ 3) → (zx_T σ_164) → (∀ a i : Int, (¬ (a = 0 ∧ i = 30) ∧ ¬ (a = 0 ∧ i = 61) ∧ a ≠ 18) → σ_164 a i = σ a i) → (zx_M σ_164) → (zx_O σ_164) → (zx_W σ_164) → (0 ≤ σ_164 0 61) → (σ_164 0 61 ≤ 12 + 3 * x8_164) → (zq_hid (σ_164 0 61 = zx_rs (if zq_and (zq_or r122 r127) 8 = 0 then 0 else (if 0 < r15 then r15 else r23)) (zq_or r122 r127) (σ 0 1) x8_164)) → 3 - x8_164 < (fuel : Int) → V 164 [some (ZR 0), none, none, none, none, none, none, some (ZI (zq_or r122 r127)), some (ZI x8_164), none, none] [] 41 σ_164 := by
          intro fuel
          induction fuel with
          | zero =>
            intro x8_164 σ_164 hx8_164 hσ_164 hFσ_164 Mσ_164 Oσ_164 Wσ_164 hi164_0 hi164_1 hi164_2 hm164
            exfalso; omega
          | succ fuel ih =>
            intro x8_164 σ_164 hx8_164 hσ_164 hFσ_164 Mσ_164 Oσ_164 Wσ_164 hi164_0 hi164_1 hi164_2 hm164
            have ih164 := ih
            show V 164 [some (ZR 0), none, none, none, none, none, none, some (ZI (zq_or r122 r127)), some (ZI x8_164), none, none] [] 41 σ_164
            refine zr_iload (pc := 164) hV dX12_roomFor_164 rfl ?_
            refine zr_iconst (pc := 166) hV 3 dX12_roomFor_166 rfl ?_
            refine zr_icmp_ge (pc := 167) hV 197 dX12_roomFor_167 (by decide) (by omega) ⟨by decide, by decide⟩ (fun c8 => ?_) (fun c8 => ?_)
            · show V 197 [some (ZR 0), none, none, none, none, none, none, some (ZI (zq_or r122 r127)), some (ZI x8_164), none, none] [] 41 σ_164
              have rbv : σ_164 0 61 = zx_rb (zq_or (zx_fm σ a 4) (zx_fm σ c 4)) (if 0 < zx_cnt σ a 3 (σ 0 2) then zx_cnt σ a 3 (σ 0 2) else zx_cnt σ c 3 (σ 0 2)) (σ 0 1) := by rw [← zx_rs_3, ← pr15.2.2, ← pr23.2.2, ← pr122, ← pr127, show (3 : Int) = x8_164 by omega]; exact hi164_2
              refine zr_aload_n (pc := 197) hV dX12_roomFor_197 rfl rfl ?_
              refine zr_getI (pc := 198) hV 61 dX12_roomFor_198 fX12_470 rfl rfl rfl (by decide) ?_
              have t9 := zx_g61 hσ_164
              refine zr_aload_n (pc := 201) hV dX12_roomFor_201 rfl rfl ?_
              refine zr_getI (pc := 202) hV 2 dX12_roomFor_202 fX12_16 rfl rfl rfl (by decide) ?_
              have t10 := zx_g2 hσ_164
              have t11 : σ_164 0 2 = σ 0 2 := hFσ_164 _ _ (by omega)
              refine zr_icmp_lt (pc := 205) hV 211 dX12_roomFor_205 (by decide) (by omega) (by omega) (fun c12 => ?_) (fun c12 => ?_)
              · show V 211 [some (ZR 0), none, none, none, none, none, none, some (ZI (zq_or r122 r127)), some (ZI x8_164), none, none] [] 41 σ_164
                have rbl : (zx_rb (zq_or (zx_fm σ a 4) (zx_fm σ c 4)) (if 0 < zx_cnt σ a 3 (σ 0 2) then zx_cnt σ a 3 (σ 0 2) else zx_cnt σ c 3 (σ 0 2)) (σ 0 1)) < σ 0 2 := by rw [← rbv]; omega
                refine zr_iconst (pc := 211) hV 0 dX12_roomFor_211 rfl ?_
                refine zr_istore (pc := 212) hV [some (ZR 0), none, none, none, none, none, none, some (ZI (zq_or r122 r127)), some (ZI 0), none, none] dX12_roomFor_212 (by decide) rfl rfl ?_
                have t13 := zx_g61 hσ_164
                have L214 : ∀ (fuel : Nat) (x8_214 : Int) (σ_214 : zq_S), (0 ≤ x8_214 ∧ x8_214 ≤ 4096) → (zx_T σ_214) → (∀ a i : Int, (¬ (a = 0 ∧ i = 30) ∧ ¬ (a = 0 ∧ i = 61) ∧ a ≠ 18) → σ_214 a i = σ a i) → (zx_M σ_214) → (zx_O σ_214) → (zx_W σ_214) → (σ_214 0 61 = σ_164 0 61) → (zx_p2 (σ_214 0 61) ∣ x8_214) → (zq_hid (zt_rin (zt_hl σ) (zx_p2 (zx_rb (zq_or (zx_fm σ a 4) (zx_fm σ c 4)) (if 0 < zx_cnt σ a 3 (σ 0 2) then zx_cnt σ a 3 (σ 0 2) else zx_cnt σ c 3 (σ 0 2)) (σ 0 1))) x8_214)) → 4096 - x8_214 < (fuel : Int) → V 214 [some (ZR 0), none, none, none, none, none, none, none, some (ZI x8_214), none, none] [] 41 σ_214 := by
                  intro fuel
                  induction fuel with
                  | zero =>
                    intro x8_214 σ_214 hx8_214 hσ_214 hFσ_214 Mσ_214 Oσ_214 Wσ_214 hi214_0 hi214_1 hi214_2 hm214
                    exfalso; omega
                  | succ fuel ih =>
                    intro x8_214 σ_214 hx8_214 hσ_214 hFσ_214 Mσ_214 Oσ_214 Wσ_214 hi214_0 hi214_1 hi214_2 hm214
                    have ih214 := ih
                    show V 214 [some (ZR 0), none, none, none, none, none, none, none, some (ZI x8_214), none, none] [] 41 σ_214
                    refine zr_iload (pc := 214) hV dX12_roomFor_214 rfl ?_
                    have cb : zx_p2 (σ_214 0 2) = zx_p2 (σ 0 2) := by rw [hFσ_214 0 2 (by omega)]
                    refine zr_iconst (pc := 216) hV 1 dX12_roomFor_216 rfl ?_
                    refine zr_aload_n (pc := 217) hV dX12_roomFor_217 rfl rfl ?_
                    refine zr_getI (pc := 218) hV 2 dX12_roomFor_218 fX12_16 rfl rfl rfl (by decide) ?_
                    have t14 := zx_g2 hσ_214
                    have t15 : σ_214 0 2 = σ 0 2 := hFσ_214 _ _ (by omega)
                    refine zr_ishl (pc := 221) hV dX12_roomFor_221 ?_
                    have t16 := zx_shl_one (y := σ_214 0 2) 12 4096 (by decide) (by decide) (by omega)
                    refine zr_icmp_ge (pc := 222) hV 295 dX12_roomFor_222 (by decide) (by omega) (by omega) (fun c17 => ?_) (fun c17 => ?_)
                    · show V 295 [some (ZR 0), none, none, none, none, none, none, none, some (ZI x8_214), none, none] [] 41 σ_214
                      refine zr_bipush (pc := 295) hV (-2) dX12_roomFor_295 (by decide) ?_
                      have t18 := zx_g61 hσ_214
                      exact zr_iret (pc := 297) hV dX12_roomFor_297 rfl rfl ⟨_, rfl, ⟨by decide, by decide⟩, hσ_214, hFσ_214, (by omega), (show zt_room (zt_hl σ) (zt_cr σ a c ∧ (zx_rb (zq_or (zx_fm σ a 4) (zx_fm σ c 4)) (if 0 < zx_cnt σ a 3 (σ 0 2) then zx_cnt σ a 3 (σ 0 2) else zx_cnt σ c 3 (σ 0 2)) (σ 0 1)) < σ 0 2) (zx_p2 (zx_rb (zq_or (zx_fm σ a 4) (zx_fm σ c 4)) (if 0 < zx_cnt σ a 3 (σ 0 2) then zx_cnt σ a 3 (σ 0 2) else zx_cnt σ c 3 (σ 0 2)) (σ 0 1))) (zx_p2 (σ 0 2)) ((-2) : Int) ∧ (0 ≤ ((-2) : Int) → σ 5 a + σ 5 c ≤ 3 ∧ σ 7 a + σ 7 c ≤ 10 ∧ σ_214 0 61 = zx_rb (zq_or (zx_fm σ a 4) (zx_fm σ c 4)) (if 0 < zx_cnt σ a 3 (σ 0 2) then zx_cnt σ a 3 (σ 0 2) else zx_cnt σ c 3 (σ 0 2)) (σ 0 1) ∧ 0 ≤ σ_214 0 61 ∧ σ_214 0 61 < σ 0 2) from ⟨zt_room_n hi214_2 (by omega), (fun h => absurd h (by omega))⟩), Mσ_214, Oσ_214, Wσ_214⟩
                    · show V 225 [some (ZR 0), none, none, none, none, none, none, none, some (ZI x8_214), none, none] [] 41 σ_214
                      have hb1 := zx_blk hi214_1 (show x8_214 < zx_p2 (σ_214 0 2) by omega) (by omega) (by omega)
                      have hb2 := zx_p2_le (m := σ_214 0 2) (n := 12) (by omega)
                      have hb3 := zx_p2_12
                      refine zr_iconst (pc := 225) hV 1 dX12_roomFor_225 rfl ?_
                      refine zr_istore (pc := 226) hV [some (ZR 0), none, none, none, none, none, none, none, some (ZI x8_214), some (ZI 1), none] dX12_roomFor_226 (by decide) rfl rfl ?_
                      refine zr_iload (pc := 228) hV dX12_roomFor_228 rfl ?_
                      refine zr_istore (pc := 230) hV [some (ZR 0), none, none, none, none, none, none, none, some (ZI x8_214), some (ZI 1), some (ZI x8_214)] dX12_roomFor_230 (by decide) rfl rfl ?_
                      have t19 := zx_g61 hσ_214
                      have L232 : ∀ (fuel : Nat) (x10_232 : Int) (x9_232 : Int) (σ_232 : zq_S), (0 ≤ x10_232 ∧ x10_232 ≤ 4096) → (0 ≤ x9_232 ∧ x9_232 ≤ 1) → (zx_T σ_232) → (∀ a i : Int, (¬ (a = 0 ∧ i = 30) ∧ ¬ (a = 0 ∧ i = 61) ∧ a ≠ 18) → σ_232 a i = σ a i) → (zx_M σ_232) → (zx_O σ_232) → (zx_W σ_232) → (x8_214 ≤ x10_232) → (σ_232 0 61 = σ_214 0 61) → (zq_hid ((x9_232 = 1 → ∀ y, x8_214 ≤ y → y < x10_232 → zt_hl σ y) ∧ (x9_232 = 0 → ¬ zt_free (zt_hl σ) x8_214 (zx_p2 (zx_rb (zq_or (zx_fm σ a 4) (zx_fm σ c 4)) (if 0 < zx_cnt σ a 3 (σ 0 2) then zx_cnt σ a 3 (σ 0 2) else zx_cnt σ c 3 (σ 0 2)) (σ 0 1)))))) → 4096 - x10_232 < (fuel : Int) → V 232 [some (ZR 0), none, none, none, none, none, none, none, some (ZI x8_214), some (ZI x9_232), some (ZI x10_232)] [] 41 σ_232 := by
                        intro fuel
                        induction fuel with
                        | zero =>
                          intro x10_232 x9_232 σ_232 hx10_232 hx9_232 hσ_232 hFσ_232 Mσ_232 Oσ_232 Wσ_232 hi232_0 hi232_1 hi232_2 hm232
                          exfalso; omega
                        | succ fuel ih =>
                          intro x10_232 x9_232 σ_232 hx10_232 hx9_232 hσ_232 hFσ_232 Mσ_232 Oσ_232 Wσ_232 hi232_0 hi232_1 hi232_2 hm232
                          have ih232 := ih
                          have cg : zx_p2 (σ_232 0 61) = zx_p2 (σ_214 0 61) := by rw [hi232_1]
                          show V 232 [some (ZR 0), none, none, none, none, none, none, none, some (ZI x8_214), some (ZI x9_232), some (ZI x10_232)] [] 41 σ_232
                          refine zr_iload (pc := 232) hV dX12_roomFor_232 rfl ?_
                          have cb2 : zx_p2 (σ_232 0 2) = zx_p2 (σ 0 2) := by rw [hFσ_232 0 2 (by omega)]
                          have zk : zq_shl 1 (σ_232 0 61) = (zx_p2 (zx_rb (zq_or (zx_fm σ a 4) (zx_fm σ c 4)) (if 0 < zx_cnt σ a 3 (σ 0 2) then zx_cnt σ a 3 (σ 0 2) else zx_cnt σ c 3 (σ 0 2)) (σ 0 1))) := by rw [(zx_shl_one (y := σ_232 0 61) 11 2048 (by decide) (by decide) (by omega)).1, hi232_1, hi214_0, rbv]
                          have rbe : zx_p2 (σ_214 0 61) = (zx_p2 (zx_rb (zq_or (zx_fm σ a 4) (zx_fm σ c 4)) (if 0 < zx_cnt σ a 3 (σ 0 2) then zx_cnt σ a 3 (σ 0 2) else zx_cnt σ c 3 (σ 0 2)) (σ 0 1))) := by rw [hi214_0, rbv]
                          refine zr_iload (pc := 234) hV dX12_roomFor_234 rfl ?_
                          refine zr_iconst (pc := 236) hV 1 dX12_roomFor_236 rfl ?_
                          refine zr_aload_n (pc := 237) hV dX12_roomFor_237 rfl rfl ?_
                          refine zr_getI (pc := 238) hV 61 dX12_roomFor_238 fX12_470 rfl rfl rfl (by decide) ?_
                          have t20 := zx_g61 hσ_232
                          refine zr_ishl (pc := 241) hV dX12_roomFor_241 ?_
                          have t21 := zx_shl_one (y := σ_232 0 61) 11 2048 (by decide) (by decide) (by omega)
                          refine zr_iadd (pc := 242) hV dX12_roomFor_242 ?_
                          refine zr_icmp_ge (pc := 243) hV 273 dX12_roomFor_243 (by decide) (by omega) (by omega) (fun c22 => ?_) (fun c22 => ?_)
                          · show V 273 [some (ZR 0), none, none, none, none, none, none, none, some (ZI x8_214), some (ZI x9_232), some (ZI x10_232)] [] 41 σ_232
                            refine zr_iload (pc := 273) hV dX12_roomFor_273 rfl ?_
                            refine zr_if_eq (pc := 275) hV 281 dX12_roomFor_275 (by decide) (by omega) (fun c23 => ?_) (fun c23 => ?_)
                            · show V 281 [some (ZR 0), none, none, none, none, none, none, none, some (ZI x8_214), some (ZI x9_232), some (ZI x10_232)] [] 41 σ_232
                              refine zr_iload (pc := 281) hV dX12_roomFor_281 rfl ?_
                              refine zr_iconst (pc := 283) hV 1 dX12_roomFor_283 rfl ?_
                              refine zr_aload_n (pc := 284) hV dX12_roomFor_284 rfl rfl ?_
                              refine zr_getI (pc := 285) hV 61 dX12_roomFor_285 fX12_470 rfl rfl rfl (by decide) ?_
                              have t24 := zx_g61 hσ_232
                              refine zr_ishl (pc := 288) hV dX12_roomFor_288 ?_
                              have t25 := zx_shl_one (y := σ_232 0 61) 11 2048 (by decide) (by decide) (by omega)
                              refine zr_iadd (pc := 289) hV dX12_roomFor_289 ?_
                              refine zr_istore (pc := 290) hV [some (ZR 0), none, none, none, none, none, none, none, some (ZI (x8_214 + (zq_shl 1 (σ_232 0 61)))), some (ZI x9_232), some (ZI x10_232)] dX12_roomFor_290 (by decide) rfl rfl ?_
                              refine zr_goto (pc := 292) hV 214 dX12_roomFor_292 (by decide) ?_
                              have t26 := zx_g61 hσ_232
                              have t27 := zx_g61 hσ_232
                              refine zr_sub (pc := 214) hV [some (ZR 0), none, none, none, none, none, none, none, some (ZI (x8_214 + (zq_shl 1 (σ_232 0 61)))), none, none] (⟨rfl, rfl, trivial⟩) ?_
                              exact ih214 (x8_214 + (zq_shl 1 (σ_232 0 61))) σ_232 (by omega) hσ_232 hFσ_232 Mσ_232 Oσ_232 Wσ_232 (by omega) (by have e1 := (zx_shl_one (y := σ_232 0 61) 11 2048 (by decide) (by decide) (by omega)).1; rw [e1, cg]; exact Int.dvd_add hi214_1 (Int.dvd_refl _)) (by rw [zk]; exact zt_rin_s (by have := zx_p2_pos (zx_rb (zq_or (zx_fm σ a 4) (zx_fm σ c 4)) (if 0 < zx_cnt σ a 3 (σ 0 2) then zx_cnt σ a 3 (σ 0 2) else zx_cnt σ c 3 (σ 0 2)) (σ 0 1)); omega) hi214_2 (hi232_2.2 (by omega))) (by omega)
                            · show V 278 [some (ZR 0), none, none, none, none, none, none, none, some (ZI x8_214), some (ZI x9_232), some (ZI x10_232)] [] 41 σ_232
                              refine zr_iload (pc := 278) hV dX12_roomFor_278 rfl ?_
                              have t28 := zx_g61 hσ_232
                              exact zr_iret (pc := 280) hV dX12_roomFor_280 rfl rfl ⟨_, rfl, (by omega), hσ_232, hFσ_232, (by omega), (show zt_room (zt_hl σ) (zt_cr σ a c ∧ (zx_rb (zq_or (zx_fm σ a 4) (zx_fm σ c 4)) (if 0 < zx_cnt σ a 3 (σ 0 2) then zx_cnt σ a 3 (σ 0 2) else zx_cnt σ c 3 (σ 0 2)) (σ 0 1)) < σ 0 2) (zx_p2 (zx_rb (zq_or (zx_fm σ a 4) (zx_fm σ c 4)) (if 0 < zx_cnt σ a 3 (σ 0 2) then zx_cnt σ a 3 (σ 0 2) else zx_cnt σ c 3 (σ 0 2)) (σ 0 1))) (zx_p2 (σ 0 2)) x8_214 ∧ (0 ≤ x8_214 → σ 5 a + σ 5 c ≤ 3 ∧ σ 7 a + σ 7 c ≤ 10 ∧ σ_232 0 61 = zx_rb (zq_or (zx_fm σ a 4) (zx_fm σ c 4)) (if 0 < zx_cnt σ a 3 (σ 0 2) then zx_cnt σ a 3 (σ 0 2) else zx_cnt σ c 3 (σ 0 2)) (σ 0 1) ∧ 0 ≤ σ_232 0 61 ∧ σ_232 0 61 < σ 0 2) from ⟨zt_room_y hi214_2 ⟨can.mp u110, rbl⟩ (by omega) (fun y h0 h1 => hi232_2.1 (by omega) y h0 (by omega)) (by omega), fun _ => ⟨u110.2.2.2.1, u110.2.2.2.2.1, by rw [hi232_1, hi214_0]; exact rbv, by omega, by omega⟩⟩), Mσ_232, Oσ_232, Wσ_232⟩
                          · show V 246 [some (ZR 0), none, none, none, none, none, none, none, some (ZI x8_214), some (ZI x9_232), some (ZI x10_232)] [] 41 σ_232
                            refine zr_iload (pc := 246) hV dX12_roomFor_246 rfl ?_
                            refine zr_if_eq (pc := 248) hV 273 dX12_roomFor_248 (by decide) (by omega) (fun c29 => ?_) (fun c29 => ?_)
                            · show V 273 [some (ZR 0), none, none, none, none, none, none, none, some (ZI x8_214), some (ZI x9_232), some (ZI x10_232)] [] 41 σ_232
                              refine zr_iload (pc := 273) hV dX12_roomFor_273 rfl ?_
                              refine zr_if_eq (pc := 275) hV 281 dX12_roomFor_275 (by decide) (by omega) (fun c30 => ?_) (fun c30 => ?_)
                              · show V 281 [some (ZR 0), none, none, none, none, none, none, none, some (ZI x8_214), some (ZI x9_232), some (ZI x10_232)] [] 41 σ_232
                                refine zr_iload (pc := 281) hV dX12_roomFor_281 rfl ?_
                                refine zr_iconst (pc := 283) hV 1 dX12_roomFor_283 rfl ?_
                                refine zr_aload_n (pc := 284) hV dX12_roomFor_284 rfl rfl ?_
                                refine zr_getI (pc := 285) hV 61 dX12_roomFor_285 fX12_470 rfl rfl rfl (by decide) ?_
                                have t31 := zx_g61 hσ_232
                                refine zr_ishl (pc := 288) hV dX12_roomFor_288 ?_
                                have t32 := zx_shl_one (y := σ_232 0 61) 11 2048 (by decide) (by decide) (by omega)
                                refine zr_iadd (pc := 289) hV dX12_roomFor_289 ?_
                                refine zr_istore (pc := 290) hV [some (ZR 0), none, none, none, none, none, none, none, some (ZI (x8_214 + (zq_shl 1 (σ_232 0 61)))), some (ZI x9_232), some (ZI x10_232)] dX12_roomFor_290 (by decide) rfl rfl ?_
                                refine zr_goto (pc := 292) hV 214 dX12_roomFor_292 (by decide) ?_
                                have t33 := zx_g61 hσ_232
                                have t34 := zx_g61 hσ_232
                                refine zr_sub (pc := 214) hV [some (ZR 0), none, none, none, none, none, none, none, some (ZI (x8_214 + (zq_shl 1 (σ_232 0 61)))), none, none] (⟨rfl, rfl, trivial⟩) ?_
                                exact ih214 (x8_214 + (zq_shl 1 (σ_232 0 61))) σ_232 (by omega) hσ_232 hFσ_232 Mσ_232 Oσ_232 Wσ_232 (by omega) (by have e1 := (zx_shl_one (y := σ_232 0 61) 11 2048 (by decide) (by decide) (by omega)).1; rw [e1, cg]; exact Int.dvd_add hi214_1 (Int.dvd_refl _)) (by rw [zk]; exact zt_rin_s (by have := zx_p2_pos (zx_rb (zq_or (zx_fm σ a 4) (zx_fm σ c 4)) (if 0 < zx_cnt σ a 3 (σ 0 2) then zx_cnt σ a 3 (σ 0 2) else zx_cnt σ c 3 (σ 0 2)) (σ 0 1)); omega) hi214_2 (hi232_2.2 (by omega))) (by omega)
                              · exfalso; omega
                            · show V 251 [some (ZR 0), none, none, none, none, none, none, none, some (ZI x8_214), some (ZI x9_232), some (ZI x10_232)] [] 41 σ_232
                              refine zr_aload_n (pc := 251) hV dX12_roomFor_251 rfl rfl ?_
                              refine zr_iload (pc := 252) hV dX12_roomFor_252 rfl ?_
                              refine zr_callVi (pc := 254) hV [ZI x10_232] (st := []) (c_X12_ownerOf2 (σ := σ_232) hσ_232 x10_232 (by omega) Mσ_232 Wσ_232) dX12_roomFor_254 mX12_283 rfl (by decide) (by decide) (Nat.le_of_ble_eq_true rfl) (Nat.le_refl _) (fun r254 σ254 hr254 pσ254 => ?_)
                              obtain ⟨hσ254, hfσ254, pσ254⟩ := pσ254
                              have Mσ254 : zx_M σ254 := pσ254.2.2.2.2.2.1
                              have Oσ254 : zx_O σ254 := zx_O_fr (fun i => hfσ254 2 i (by omega)) (fun i => hfσ254 5 i (by omega)) (fun i => hfσ254 6 i (by omega)) (hfσ254 0 2 (by omega)) (hfσ254 0 3 (by omega)) Oσ_232
                              have Wσ254 : zx_W σ254 := pσ254.2.2.2.2.2.2
                              have hFσ254 : ∀ a i : Int, (¬ (a = 0 ∧ i = 30) ∧ ¬ (a = 0 ∧ i = 61) ∧ a ≠ 18) → σ254 a i = σ a i := fun a i h => (hfσ254 a i ⟨h.1, h.2.2⟩).trans (hFσ_232 a i h)
                              have t35 := zx_g30 hσ_232
                              have t36 := zx_g30 hσ254
                              have zow : zt_ow σ x10_232 r254 := by have q := Wσ254 pσ254.2.2.2.1 x10_232 (by omega) (by rw [hfσ254 0 2 (by omega)]; omega); rw [← pσ254.2.2.1] at q; exact zt_ow_fr (fun i => (hFσ254 2 i (by omega)).symm) (hFσ254 0 3 (by omega)).symm (hFσ254 0 2 (by omega)).symm q
                              refine zr_if_ge (pc := 257) hV 264 dX12_roomFor_257 (by decide) (by omega) (fun c37 => ?_) (fun c37 => ?_)
                              · show V 264 [some (ZR 0), none, none, none, none, none, none, none, some (ZI x8_214), some (ZI x9_232), some (ZI x10_232)] [] 41 σ254
                                refine zr_iconst (pc := 264) hV 0 dX12_roomFor_264 rfl ?_
                                show V 265 [some (ZR 0), none, none, none, none, none, none, none, some (ZI x8_214), some (ZI x9_232), some (ZI x10_232)] [ZI 0] 41 σ254
                                refine zr_istore (pc := 265) hV [some (ZR 0), none, none, none, none, none, none, none, some (ZI x8_214), some (ZI 0), some (ZI x10_232)] dX12_roomFor_265 (by decide) rfl rfl ?_
                                refine zr_iinc (pc := 267) hV [some (ZR 0), none, none, none, none, none, none, none, some (ZI x8_214), some (ZI 0), some (ZI (x10_232 + 1))] (x10_232 + 1) dX12_roomFor_267 rfl rfl (by decide) rfl rfl ?_
                                refine zr_goto (pc := 270) hV 232 dX12_roomFor_270 (by decide) ?_
                                have t38 := zx_g61 hσ254
                                have t39 : σ254 0 61 = σ_232 0 61 := hfσ254 _ _ (by omega)
                                exact ih232 (x10_232 + 1) 0 σ254 (by omega) (by omega) hσ254 hFσ254 Mσ254 Oσ254 Wσ254 (by omega) (by omega) ⟨fun h => absurd h (by omega), fun _ q => (q x10_232 (by omega) (by omega)) r254 (by omega) (zow.2 (by omega)).1 (zow.2 (by omega)).2.1⟩ (by omega)
                              · show V 260 [some (ZR 0), none, none, none, none, none, none, none, some (ZI x8_214), some (ZI x9_232), some (ZI x10_232)] [] 41 σ254
                                refine zr_iconst (pc := 260) hV 1 dX12_roomFor_260 rfl ?_
                                refine zr_goto (pc := 261) hV 265 dX12_roomFor_261 (by decide) ?_
                                show V 265 [some (ZR 0), none, none, none, none, none, none, none, some (ZI x8_214), some (ZI x9_232), some (ZI x10_232)] [ZI 1] 41 σ254
                                refine zr_istore (pc := 265) hV [some (ZR 0), none, none, none, none, none, none, none, some (ZI x8_214), some (ZI 1), some (ZI x10_232)] dX12_roomFor_265 (by decide) rfl rfl ?_
                                refine zr_iinc (pc := 267) hV [some (ZR 0), none, none, none, none, none, none, none, some (ZI x8_214), some (ZI 1), some (ZI (x10_232 + 1))] (x10_232 + 1) dX12_roomFor_267 rfl rfl (by decide) rfl rfl ?_
                                refine zr_goto (pc := 270) hV 232 dX12_roomFor_270 (by decide) ?_
                                have t40 := zx_g61 hσ254
                                have t41 : σ254 0 61 = σ_232 0 61 := hfσ254 _ _ (by omega)
                                exact ih232 (x10_232 + 1) 1 σ254 (by omega) (by omega) hσ254 hFσ254 Mσ254 Oσ254 Wσ254 (by omega) (by omega) ⟨fun _ y h0 h1 => if hc : y = x10_232 then (by rw [hc]; exact (zow.1 (by omega)).2) else hi232_2.1 (by omega) y h0 (by omega), fun h => absurd h (by omega)⟩ (by omega)
                      have t42 := zx_g61 hσ_214
                      exact L232 (4096 - x8_214 + 1 : Int).toNat x8_214 1 σ_214 (by omega) (by omega) hσ_214 hFσ_214 Mσ_214 Oσ_214 Wσ_214 (by omega) (by omega) ⟨fun _ y h0 h1 => absurd h1 (by omega), fun h => absurd h (by omega)⟩ (by omega)
                have t43 := zx_g61 hσ_164
                have t44 := zx_g61 hσ_164
                refine zr_sub (pc := 214) hV [some (ZR 0), none, none, none, none, none, none, none, some (ZI 0), none, none] (⟨rfl, rfl, trivial⟩) ?_
                exact L214 (4096 - (0 : Int) + 1 : Int).toNat 0 σ_164 (by omega) hσ_164 hFσ_164 Mσ_164 Oσ_164 Wσ_164 (by omega) (Int.dvd_zero _) (zt_rin_0 (zt_hl σ) (by have := zx_p2_pos (zx_rb (zq_or (zx_fm σ a 4) (zx_fm σ c 4)) (if 0 < zx_cnt σ a 3 (σ 0 2) then zx_cnt σ a 3 (σ 0 2) else zx_cnt σ c 3 (σ 0 2)) (σ 0 1)); omega)) (by omega)
              · show V 208 [some (ZR 0), none, none, none, none, none, none, some (ZI (zq_or r122 r127)), some (ZI x8_164), none, none] [] 41 σ_164
                refine zr_bipush (pc := 208) hV (-2) dX12_roomFor_208 (by decide) ?_
                have t45 := zx_g61 hσ_164
                exact zr_iret (pc := 210) hV dX12_roomFor_210 rfl rfl ⟨_, rfl, ⟨by decide, by decide⟩, hσ_164, hFσ_164, (by omega), (show zt_room (zt_hl σ) (zt_cr σ a c ∧ (zx_rb (zq_or (zx_fm σ a 4) (zx_fm σ c 4)) (if 0 < zx_cnt σ a 3 (σ 0 2) then zx_cnt σ a 3 (σ 0 2) else zx_cnt σ c 3 (σ 0 2)) (σ 0 1)) < σ 0 2) (zx_p2 (zx_rb (zq_or (zx_fm σ a 4) (zx_fm σ c 4)) (if 0 < zx_cnt σ a 3 (σ 0 2) then zx_cnt σ a 3 (σ 0 2) else zx_cnt σ c 3 (σ 0 2)) (σ 0 1))) (zx_p2 (σ 0 2)) ((-2) : Int) ∧ (0 ≤ ((-2) : Int) → σ 5 a + σ 5 c ≤ 3 ∧ σ 7 a + σ 7 c ≤ 10 ∧ σ_164 0 61 = zx_rb (zq_or (zx_fm σ a 4) (zx_fm σ c 4)) (if 0 < zx_cnt σ a 3 (σ 0 2) then zx_cnt σ a 3 (σ 0 2) else zx_cnt σ c 3 (σ 0 2)) (σ 0 1) ∧ 0 ≤ σ_164 0 61 ∧ σ_164 0 61 < σ 0 2) from ⟨zt_room_f (fun q => absurd q.2 (by rw [← rbv]; omega)), (fun h => absurd h (by omega))⟩), Mσ_164, Oσ_164, Wσ_164⟩
            · show V 170 [some (ZR 0), none, none, none, none, none, none, some (ZI (zq_or r122 r127)), some (ZI x8_164), none, none] [] 41 σ_164
              refine zr_aload_n (pc := 170) hV dX12_roomFor_170 rfl rfl ?_
              refine zr_dup (pc := 171) hV dX12_roomFor_171 (fun _ => rfl) ?_
              refine zr_getI (pc := 172) hV 61 dX12_roomFor_172 fX12_470 rfl rfl rfl (by decide) ?_
              have t46 := zx_g61 hσ_164
              refine zr_iload (pc := 175) hV dX12_roomFor_175 rfl ?_
              refine zr_iload (pc := 177) hV dX12_roomFor_177 rfl ?_
              refine zr_ishr (pc := 179) hV dX12_roomFor_179 ?_
              have t47 := zq_shr_in (zq_or r122 r127) x8_164
              refine zr_iconst (pc := 180) hV 1 dX12_roomFor_180 rfl ?_
              refine zr_iand (pc := 181) hV dX12_roomFor_181 ?_
              have t48 := zq_and_mask (zq_shr (zq_or r122 r127) x8_164) 1 1 2 (by decide) (by decide) (by decide)
              refine zr_aload_n (pc := 182) hV dX12_roomFor_182 rfl rfl ?_
              refine zr_getI (pc := 183) hV 1 dX12_roomFor_183 fX12_13 rfl rfl rfl (by decide) ?_
              have t49 := zx_g1 hσ_164
              have t50 : σ_164 0 1 = σ 0 1 := hFσ_164 _ _ (by omega)
              refine zr_imul (pc := 186) hV dX12_roomFor_186 ?_
              have t51 := zq_mul_b (x := zq_and (zq_shr (zq_or r122 r127) x8_164) 1) (y := σ_164 0 1) 1 3 (by omega) (by omega)
              refine zr_iadd (pc := 187) hV dX12_roomFor_187 ?_
              refine zr_putI (pc := 188) hV 61 dX12_roomFor_188 fX12_470 rfl rfl rfl rfl (by decide) (fun σ188 eσ188 => ?_)
              have hσ188 : zx_T σ188 := zx_u61 eσ188 hσ_164 (by omega)
              have hFσ188 : ∀ a i : Int, (¬ (a = 0 ∧ i = 30) ∧ ¬ (a = 0 ∧ i = 61) ∧ a ≠ 18) → σ188 a i = σ a i := fun a i h => by rw [eσ188, zq_up_ne h.2.1]; exact hFσ_164 a i h
              have Mσ188 : zx_M σ188 := zx_M_fr (fun i => by rw [eσ188]; exact zq_up_ne (by omega)) (by rw [eσ188]; exact zq_up_ne (by omega)) (by rw [eσ188]; exact zq_up_ne (by omega)) (by rw [eσ188]; exact zq_up_ne (by omega)) Mσ_164
              have Oσ188 : zx_O σ188 := zx_O_fr (fun i => by rw [eσ188]; exact zq_up_ne (by omega)) (fun i => by rw [eσ188]; exact zq_up_ne (by omega)) (fun i => by rw [eσ188]; exact zq_up_ne (by omega)) (by rw [eσ188]; exact zq_up_ne (by omega)) (by rw [eσ188]; exact zq_up_ne (by omega)) Oσ_164
              have Wσ188 : zx_W σ188 := zx_W_fr (fun i => by rw [eσ188]; exact zq_up_ne (by omega)) (by rw [eσ188]; exact zq_up_ne (by omega)) (by rw [eσ188]; exact zq_up_ne (by omega)) (by rw [eσ188]; exact zq_up_ne (by omega)) (fun i => by rw [eσ188]; exact zq_up_ne (by omega)) Wσ_164
              refine zr_iinc (pc := 191) hV [some (ZR 0), none, none, none, none, none, none, some (ZI (zq_or r122 r127)), some (ZI (x8_164 + 1)), none, none] (x8_164 + 1) dX12_roomFor_191 rfl rfl (by decide) rfl rfl ?_
              refine zr_goto (pc := 194) hV 164 dX12_roomFor_194 (by decide) ?_
              have t52 := zx_g61 hσ188
              have t53 : σ188 0 61 = (σ_164 0 61) + ((zq_and (zq_shr (zq_or r122 r127) x8_164) 1) * (σ_164 0 1)) := by rw [eσ188]; exact zq_up_same _ _ _ _
              have t54 := zx_g61 hσ188
              have t55 : σ188 0 61 = (σ_164 0 61) + ((zq_and (zq_shr (zq_or r122 r127) x8_164) 1) * (σ_164 0 1)) := by rw [eσ188]; exact zq_up_same _ _ _ _
              have t56 := zx_g61 hσ188
              have t57 : σ188 0 61 = (σ_164 0 61) + ((zq_and (zq_shr (zq_or r122 r127) x8_164) 1) * (σ_164 0 1)) := by rw [eσ188]; exact zq_up_same _ _ _ _
              exact ih164 (x8_164 + 1) σ188 (by omega) hσ188 hFσ188 Mσ188 Oσ188 Wσ188 (by omega) (by omega) (by unfold zq_hid; rw [eσ188, zq_up_same, zx_rs_s _ _ _ (by omega), ← (show σ_164 0 61 = _ from hi164_2), show σ_164 0 1 = σ 0 1 by omega]) (by omega)
        have t58 := zx_g61 hσ158
        have t59 : σ158 0 61 = v0_158 := by rw [eσ158]; exact zq_up_same _ _ _ _
        have t60 := zx_g61 hσ158
        have t61 : σ158 0 61 = v0_158 := by rw [eσ158]; exact zq_up_same _ _ _ _
        have t62 := zx_g61 hσ158
        have t63 : σ158 0 61 = v0_158 := by rw [eσ158]; exact zq_up_same _ _ _ _
        exact L164 (3 - (0 : Int) + 1 : Int).toNat 0 σ158 (by omega) hσ158 hFσ158 Mσ158 Oσ158 Wσ158 (by omega) (by omega) (by unfold zq_hid; rw [eσ158, zq_up_same, zx_rs_0]; exact hi158_0) (by omega)
      refine zr_if_eq (pc := 139) hV 157 dX12_roomFor_139 (by decide) (by omega) (fun c64 => ?_) (fun c64 => ?_)
      · show V 157 [some (ZR 0), some (ZI a), some (ZI c), none, some (ZI r15), some (ZI r23), some (ZI v0_110), some (ZI (zq_or r122 r127)), none, none, none] [ZR 0] 41 σ
        refine zr_iconst (pc := 157) hV 0 dX12_roomFor_157 rfl ?_
        refine zr_sub (pc := 158) hV [some (ZR 0), none, none, none, none, none, none, some (ZI (zq_or r122 r127)), none, none, none] (⟨rfl, rfl, trivial⟩) ?_
        exact J158 0 (by omega) (by unfold zq_hid; rw [if_pos (by omega)])
      · show V 142 [some (ZR 0), some (ZI a), some (ZI c), none, some (ZI r15), some (ZI r23), some (ZI v0_110), some (ZI (zq_or r122 r127)), none, none, none] [ZR 0] 41 σ
        refine zr_iload (pc := 142) hV dX12_roomFor_142 rfl ?_
        refine zr_if_le (pc := 144) hV 152 dX12_roomFor_144 (by decide) (by omega) (fun c65 => ?_) (fun c65 => ?_)
        · show V 152 [some (ZR 0), some (ZI a), some (ZI c), none, some (ZI r15), some (ZI r23), some (ZI v0_110), some (ZI (zq_or r122 r127)), none, none, none] [ZR 0] 41 σ
          refine zr_iload (pc := 152) hV dX12_roomFor_152 rfl ?_
          refine zr_goto (pc := 154) hV 158 dX12_roomFor_154 (by decide) ?_
          refine zr_sub (pc := 158) hV [some (ZR 0), none, none, none, none, none, none, some (ZI (zq_or r122 r127)), none, none, none] (⟨rfl, rfl, trivial⟩) ?_
          exact J158 r23 (by omega) (by unfold zq_hid; rw [if_neg (by omega), if_neg (by omega)])
        · show V 147 [some (ZR 0), some (ZI a), some (ZI c), none, some (ZI r15), some (ZI r23), some (ZI v0_110), some (ZI (zq_or r122 r127)), none, none, none] [ZR 0] 41 σ
          refine zr_iload (pc := 147) hV dX12_roomFor_147 rfl ?_
          refine zr_goto (pc := 149) hV 158 dX12_roomFor_149 (by decide) ?_
          refine zr_sub (pc := 158) hV [some (ZR 0), none, none, none, none, none, none, some (ZI (zq_or r122 r127)), none, none, none] (⟨rfl, rfl, trivial⟩) ?_
          exact J158 r15 (by omega) (by unfold zq_hid; rw [if_neg (by omega), if_pos (by omega)])
    · show V 117 [some (ZR 0), some (ZI a), some (ZI c), none, some (ZI r15), some (ZI r23), some (ZI v0_110), none, none, none, none] [] 41 σ
      refine zr_bipush (pc := 117) hV (-2) dX12_roomFor_117 (by decide) ?_
      have t66 := zx_g61 hσ
      exact zr_iret (pc := 119) hV dX12_roomFor_119 rfl rfl ⟨_, rfl, ⟨by decide, by decide⟩, hσ, (fun a i _ => rfl), (by omega), (show zt_room (zt_hl σ) (zt_cr σ a c ∧ (zx_rb (zq_or (zx_fm σ a 4) (zx_fm σ c 4)) (if 0 < zx_cnt σ a 3 (σ 0 2) then zx_cnt σ a 3 (σ 0 2) else zx_cnt σ c 3 (σ 0 2)) (σ 0 1)) < σ 0 2) (zx_p2 (zx_rb (zq_or (zx_fm σ a 4) (zx_fm σ c 4)) (if 0 < zx_cnt σ a 3 (σ 0 2) then zx_cnt σ a 3 (σ 0 2) else zx_cnt σ c 3 (σ 0 2)) (σ 0 1))) (zx_p2 (σ 0 2)) ((-2) : Int) ∧ (0 ≤ ((-2) : Int) → σ 5 a + σ 5 c ≤ 3 ∧ σ 7 a + σ 7 c ≤ 10 ∧ σ 0 61 = zx_rb (zq_or (zx_fm σ a 4) (zx_fm σ c 4)) (if 0 < zx_cnt σ a 3 (σ 0 2) then zx_cnt σ a 3 (σ 0 2) else zx_cnt σ c 3 (σ 0 2)) (σ 0 1) ∧ 0 ≤ σ 0 61 ∧ σ 0 61 < σ 0 2) from ⟨zt_room_f (fun q => hi110_0.2 (by omega) (can.mpr q.1)), (fun h => absurd h (by omega))⟩), Mσ, Oσ, Wσ⟩
  refine zr_if_ne (pc := 34) hV 109 dX12_roomFor_34 (by decide) (by omega) (fun c67 => ?_) (fun c67 => ?_)
  · show V 109 [some (ZR 0), some (ZI a), some (ZI c), some (ZI (zq_or r2 r7)), some (ZI r15), some (ZI r23), none, none, none, none, none] [] 41 σ
    refine zr_iconst (pc := 109) hV 0 dX12_roomFor_109 rfl ?_
    refine zr_sub (pc := 110) hV [some (ZR 0), some (ZI a), some (ZI c), none, some (ZI r15), some (ZI r23), none, none, none, none, none] (⟨rfl, rfl, rfl, rfl, rfl, trivial⟩) ?_
    exact J110 0 (by omega) ⟨fun h => absurd h (by omega), fun _ q => (by omega)⟩
  · show V 37 [some (ZR 0), some (ZI a), some (ZI c), some (ZI (zq_or r2 r7)), some (ZI r15), some (ZI r23), none, none, none, none, none] [] 41 σ
    refine zr_aload_n (pc := 37) hV dX12_roomFor_37 rfl rfl ?_
    refine zr_getR (pc := 38) hV 6 3 dX12_roomFor_38 fX12_26 rfl rfl rfl (by decide) (zx_g6 hσ) (by omega) ?_
    refine zr_iload_n (pc := 41) hV dX12_roomFor_41 rfl rfl ?_
    refine zr_iald (pc := 42) hV dX12_roomFor_42 rfl (by decide) rfl (by omega) ?_
    have t68 := zx_ga3 hσ c
    refine zr_if_ne (pc := 43) hV 109 dX12_roomFor_43 (by decide) (by omega) (fun c69 => ?_) (fun c69 => ?_)
    · show V 109 [some (ZR 0), some (ZI a), some (ZI c), some (ZI (zq_or r2 r7)), some (ZI r15), some (ZI r23), none, none, none, none, none] [] 41 σ
      refine zr_iconst (pc := 109) hV 0 dX12_roomFor_109 rfl ?_
      refine zr_sub (pc := 110) hV [some (ZR 0), some (ZI a), some (ZI c), none, some (ZI r15), some (ZI r23), none, none, none, none, none] (⟨rfl, rfl, rfl, rfl, rfl, trivial⟩) ?_
      exact J110 0 (by omega) ⟨fun h => absurd h (by omega), fun _ q => (by omega)⟩
    · show V 46 [some (ZR 0), some (ZI a), some (ZI c), some (ZI (zq_or r2 r7)), some (ZI r15), some (ZI r23), none, none, none, none, none] [] 41 σ
      refine zr_iload_n (pc := 46) hV dX12_roomFor_46 rfl rfl ?_
      refine zr_bipush (pc := 47) hV 16 dX12_roomFor_47 (by decide) ?_
      refine zr_iand (pc := 49) hV dX12_roomFor_49 ?_
      have t70 := zq_and_nnR (x := zq_or r2 r7) (y := 16) (by omega)
      refine zr_if_ne (pc := 50) hV 109 dX12_roomFor_50 (by decide) (by omega) (fun c71 => ?_) (fun c71 => ?_)
      · show V 109 [some (ZR 0), some (ZI a), some (ZI c), some (ZI (zq_or r2 r7)), some (ZI r15), some (ZI r23), none, none, none, none, none] [] 41 σ
        refine zr_iconst (pc := 109) hV 0 dX12_roomFor_109 rfl ?_
        refine zr_sub (pc := 110) hV [some (ZR 0), some (ZI a), some (ZI c), none, some (ZI r15), some (ZI r23), none, none, none, none, none] (⟨rfl, rfl, rfl, rfl, rfl, trivial⟩) ?_
        exact J110 0 (by omega) ⟨fun h => absurd h (by omega), fun _ q => (by omega)⟩
      · show V 53 [some (ZR 0), some (ZI a), some (ZI c), some (ZI (zq_or r2 r7)), some (ZI r15), some (ZI r23), none, none, none, none, none] [] 41 σ
        refine zr_aload_n (pc := 53) hV dX12_roomFor_53 rfl rfl ?_
        refine zr_getR (pc := 54) hV 8 5 dX12_roomFor_54 fX12_32 rfl rfl rfl (by decide) (zx_g8 hσ) (by omega) ?_
        refine zr_iload_n (pc := 57) hV dX12_roomFor_57 rfl rfl ?_
        refine zr_iald (pc := 58) hV dX12_roomFor_58 rfl (by decide) rfl (by omega) ?_
        have t72 := zx_ga5 hσ a
        refine zr_aload_n (pc := 59) hV dX12_roomFor_59 rfl rfl ?_
        refine zr_getR (pc := 60) hV 8 5 dX12_roomFor_60 fX12_32 rfl rfl rfl (by decide) (zx_g8 hσ) (by omega) ?_
        refine zr_iload_n (pc := 63) hV dX12_roomFor_63 rfl rfl ?_
        refine zr_iald (pc := 64) hV dX12_roomFor_64 rfl (by decide) rfl (by omega) ?_
        have t73 := zx_ga5 hσ c
        refine zr_iadd (pc := 65) hV dX12_roomFor_65 ?_
        refine zr_iconst (pc := 66) hV 3 dX12_roomFor_66 rfl ?_
        refine zr_icmp_gt (pc := 67) hV 109 dX12_roomFor_67 (by decide) (by omega) ⟨by decide, by decide⟩ (fun c74 => ?_) (fun c74 => ?_)
        · show V 109 [some (ZR 0), some (ZI a), some (ZI c), some (ZI (zq_or r2 r7)), some (ZI r15), some (ZI r23), none, none, none, none, none] [] 41 σ
          refine zr_iconst (pc := 109) hV 0 dX12_roomFor_109 rfl ?_
          refine zr_sub (pc := 110) hV [some (ZR 0), some (ZI a), some (ZI c), none, some (ZI r15), some (ZI r23), none, none, none, none, none] (⟨rfl, rfl, rfl, rfl, rfl, trivial⟩) ?_
          exact J110 0 (by omega) ⟨fun h => absurd h (by omega), fun _ q => (by omega)⟩
        · show V 70 [some (ZR 0), some (ZI a), some (ZI c), some (ZI (zq_or r2 r7)), some (ZI r15), some (ZI r23), none, none, none, none, none] [] 41 σ
          refine zr_aload_n (pc := 70) hV dX12_roomFor_70 rfl rfl ?_
          refine zr_getR (pc := 71) hV 10 7 dX12_roomFor_71 fX12_38 rfl rfl rfl (by decide) (zx_g10 hσ) (by omega) ?_
          refine zr_iload_n (pc := 74) hV dX12_roomFor_74 rfl rfl ?_
          refine zr_iald (pc := 75) hV dX12_roomFor_75 rfl (by decide) rfl (by omega) ?_
          have t75 := zx_ga7 hσ a
          refine zr_aload_n (pc := 76) hV dX12_roomFor_76 rfl rfl ?_
          refine zr_getR (pc := 77) hV 10 7 dX12_roomFor_77 fX12_38 rfl rfl rfl (by decide) (zx_g10 hσ) (by omega) ?_
          refine zr_iload_n (pc := 80) hV dX12_roomFor_80 rfl rfl ?_
          refine zr_iald (pc := 81) hV dX12_roomFor_81 rfl (by decide) rfl (by omega) ?_
          have t76 := zx_ga7 hσ c
          refine zr_iadd (pc := 82) hV dX12_roomFor_82 ?_
          refine zr_bipush (pc := 83) hV 10 dX12_roomFor_83 (by decide) ?_
          refine zr_icmp_gt (pc := 85) hV 109 dX12_roomFor_85 (by decide) (by omega) ⟨by decide, by decide⟩ (fun c77 => ?_) (fun c77 => ?_)
          · show V 109 [some (ZR 0), some (ZI a), some (ZI c), some (ZI (zq_or r2 r7)), some (ZI r15), some (ZI r23), none, none, none, none, none] [] 41 σ
            refine zr_iconst (pc := 109) hV 0 dX12_roomFor_109 rfl ?_
            refine zr_sub (pc := 110) hV [some (ZR 0), some (ZI a), some (ZI c), none, some (ZI r15), some (ZI r23), none, none, none, none, none] (⟨rfl, rfl, rfl, rfl, rfl, trivial⟩) ?_
            exact J110 0 (by omega) ⟨fun h => absurd h (by omega), fun _ q => (by omega)⟩
          · show V 88 [some (ZR 0), some (ZI a), some (ZI c), some (ZI (zq_or r2 r7)), some (ZI r15), some (ZI r23), none, none, none, none, none] [] 41 σ
            refine zr_iload (pc := 88) hV dX12_roomFor_88 rfl ?_
            refine zr_if_eq (pc := 90) hV 105 dX12_roomFor_90 (by decide) (by omega) (fun c78 => ?_) (fun c78 => ?_)
            · show V 105 [some (ZR 0), some (ZI a), some (ZI c), some (ZI (zq_or r2 r7)), some (ZI r15), some (ZI r23), none, none, none, none, none] [] 41 σ
              refine zr_iconst (pc := 105) hV 1 dX12_roomFor_105 rfl ?_
              refine zr_goto (pc := 106) hV 110 dX12_roomFor_106 (by decide) ?_
              refine zr_sub (pc := 110) hV [some (ZR 0), some (ZI a), some (ZI c), none, some (ZI r15), some (ZI r23), none, none, none, none, none] (⟨rfl, rfl, rfl, rfl, rfl, trivial⟩) ?_
              exact J110 1 (by omega) ⟨fun _ => ⟨by omega, by omega, by omega, by omega, by omega, by omega⟩, fun h => absurd h (by omega)⟩
            · show V 93 [some (ZR 0), some (ZI a), some (ZI c), some (ZI (zq_or r2 r7)), some (ZI r15), some (ZI r23), none, none, none, none, none] [] 41 σ
              refine zr_iload (pc := 93) hV dX12_roomFor_93 rfl ?_
              refine zr_if_eq (pc := 95) hV 105 dX12_roomFor_95 (by decide) (by omega) (fun c79 => ?_) (fun c79 => ?_)
              · show V 105 [some (ZR 0), some (ZI a), some (ZI c), some (ZI (zq_or r2 r7)), some (ZI r15), some (ZI r23), none, none, none, none, none] [] 41 σ
                refine zr_iconst (pc := 105) hV 1 dX12_roomFor_105 rfl ?_
                refine zr_goto (pc := 106) hV 110 dX12_roomFor_106 (by decide) ?_
                refine zr_sub (pc := 110) hV [some (ZR 0), some (ZI a), some (ZI c), none, some (ZI r15), some (ZI r23), none, none, none, none, none] (⟨rfl, rfl, rfl, rfl, rfl, trivial⟩) ?_
                exact J110 1 (by omega) ⟨fun _ => ⟨by omega, by omega, by omega, by omega, by omega, by omega⟩, fun h => absurd h (by omega)⟩
              · show V 98 [some (ZR 0), some (ZI a), some (ZI c), some (ZI (zq_or r2 r7)), some (ZI r15), some (ZI r23), none, none, none, none, none] [] 41 σ
                refine zr_iload (pc := 98) hV dX12_roomFor_98 rfl ?_
                refine zr_iload (pc := 100) hV dX12_roomFor_100 rfl ?_
                refine zr_icmp_ne (pc := 102) hV 109 dX12_roomFor_102 (by decide) (by omega) (by omega) (fun c80 => ?_) (fun c80 => ?_)
                · show V 109 [some (ZR 0), some (ZI a), some (ZI c), some (ZI (zq_or r2 r7)), some (ZI r15), some (ZI r23), none, none, none, none, none] [] 41 σ
                  refine zr_iconst (pc := 109) hV 0 dX12_roomFor_109 rfl ?_
                  refine zr_sub (pc := 110) hV [some (ZR 0), some (ZI a), some (ZI c), none, some (ZI r15), some (ZI r23), none, none, none, none, none] (⟨rfl, rfl, rfl, rfl, rfl, trivial⟩) ?_
                  exact J110 0 (by omega) ⟨fun h => absurd h (by omega), fun _ q => (by omega)⟩
                · show V 105 [some (ZR 0), some (ZI a), some (ZI c), some (ZI (zq_or r2 r7)), some (ZI r15), some (ZI r23), none, none, none, none, none] [] 41 σ
                  refine zr_iconst (pc := 105) hV 1 dX12_roomFor_105 rfl ?_
                  refine zr_goto (pc := 106) hV 110 dX12_roomFor_106 (by decide) ?_
                  refine zr_sub (pc := 110) hV [some (ZR 0), some (ZI a), some (ZI c), none, some (ZI r15), some (ZI r23), none, none, none, none, none] (⟨rfl, rfl, rfl, rfl, rfl, trivial⟩) ?_
                  exact J110 1 (by omega) ⟨fun _ => ⟨by omega, by omega, by omega, by omega, by omega, by omega⟩, fun h => absurd h (by omega)⟩
