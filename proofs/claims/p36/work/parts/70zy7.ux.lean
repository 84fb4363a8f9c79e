set_option maxHeartbeats 800000 in
theorem c_X12_doOrder3 {σ : zq_S} (hσ : zx_T σ) (o bits : Int) (q0 : 0 ≤ o ∧ o ≤ 20) (q1 : zq_in bits) (q2 : zx_A σ o) (q3 : zx_B σ o) : zq_C zx_w yX12_doOrder cX12_doOrder 9 (none) 3 73 41 41 [ZR 0, ZI o, ZI bits] σ (zq_pv (fun τ => zx_T τ ∧ (∀ a i : Int, (¬ (a = 15 ∧ i ≤ 265)) → τ a i = σ a i) ∧ (True) ∧ zq_hid (∀ i, τ 15 i = zw_do (zu_rf σ o bits) (zx_p2 (σ 0 0) - 1) (σ 6) o (σ 3 o) (σ 4 o) (σ 5 o) (σ 15) i))) := by
  refine zq_C_of (by decide) (Nat.le_refl _) (Nat.le_of_ble_eq_true rfl) [some (ZR 0), some (ZI o), some (ZI bits), none, none, none, none, none, none] rfl (fun V hV => ?_)
  have z5o := zx_ga5 hσ o
  show V 0 [some (ZR 0), some (ZI o), some (ZI bits), none, none, none, none, none, none] [] 41 σ
  refine zr_aload_n (pc := 0) hV dX12_doOrder_0 rfl rfl ?_
  refine zr_getR (pc := 1) hV 6 3 dX12_doOrder_1 fX12_26 rfl rfl rfl (by decide) (zx_g6 hσ) (by omega) ?_
  refine zr_iload_n (pc := 4) hV dX12_doOrder_4 rfl rfl ?_
  refine zr_iald (pc := 5) hV dX12_doOrder_5 rfl (by decide) rfl (by omega) ?_
  have t1 := zx_ga3 hσ o
  have J76 : (zq_hid (zw_gd (zu_rf σ o bits) (σ 15) (σ 3 o) (σ 4 o))) → V 76 [some (ZR 0), some (ZI o), some (ZI bits), none, none, none, none, none, none] [] 41 σ := by
    intro hi76_0
    show V 76 [some (ZR 0), some (ZI o), some (ZI bits), none, none, none, none, none, none] [] 41 σ
    refine zr_iconst (pc := 76) hV 0 dX12_doOrder_76 rfl ?_
    refine zr_istore_n (pc := 77) hV [some (ZR 0), some (ZI o), some (ZI bits), some (ZI 0), none, none, none, none, none] dX12_doOrder_77 rfl (by decide) rfl rfl ?_
    have L78 : ∀ (fuel : Nat) (x3_78 : Int) (σ_78 : zq_S), (0 ≤ x3_78 ∧ x3_78 ≤ 3) → (zx_T σ_78) → (∀ a i : Int, (¬ (a = 15 ∧ i ≤ 265)) → σ_78 a i = σ a i) → (zq_hid (∀ i, σ_78 15 i = zw_as (zu_rf σ o bits) (zx_p2 (σ 0 0) - 1) (σ 6) (18 * o) x3_78 (σ 15) i)) → (zq_hid (zw_gd (zu_rf σ o bits) (σ 15) (σ 3 o) (σ 4 o))) → (x3_78 ≤ σ 5 o) → 3 - x3_78 < (fuel : Int) → V 78 [some (ZR 0), some (ZI o), some (ZI bits), some (ZI x3_78), none, none, none, none, none] [] 41 σ_78 := by
      intro fuel
      induction fuel with
      | zero =>
        intro x3_78 σ_78 hx3_78 hσ_78 hFσ_78 hi78_0 hi78_1 hi78_2 hm78
        exfalso; omega
      | succ fuel ih =>
        intro x3_78 σ_78 hx3_78 hσ_78 hFσ_78 hi78_0 hi78_1 hi78_2 hm78
        have ih78 := ih
        show V 78 [some (ZR 0), some (ZI o), some (ZI bits), some (ZI x3_78), none, none, none, none, none] [] 41 σ_78
        refine zr_iload_n (pc := 78) hV dX12_doOrder_78 rfl rfl ?_
        refine zr_aload_n (pc := 79) hV dX12_doOrder_79 rfl rfl ?_
        refine zr_getR (pc := 80) hV 8 5 dX12_doOrder_80 fX12_32 rfl rfl rfl (by decide) (zx_g8 hσ_78) (by omega) ?_
        refine zr_iload_n (pc := 83) hV dX12_doOrder_83 rfl rfl ?_
        refine zr_iald (pc := 84) hV dX12_doOrder_84 rfl (by decide) rfl (by omega) ?_
        have t2 := zx_ga5 hσ_78 o
        have t3 : σ_78 5 o = σ 5 o := hFσ_78 _ _ (by omega)
        refine zr_icmp_ge (pc := 85) hV 296 dX12_doOrder_85 (by decide) (by omega) (by omega) (fun c4 => ?_) (fun c4 => ?_)
        · show V 296 [some (ZR 0), some (ZI o), some (ZI bits), some (ZI x3_78), none, none, none, none, none] [] 41 σ_78
          exact zr_vret (pc := 296) hV dX12_doOrder_296 rfl rfl ⟨rfl, hσ_78, hFσ_78, trivial, (show ∀ i, σ_78 15 i = zw_do (zu_rf σ o bits) (zx_p2 (σ 0 0) - 1) (σ 6) o (σ 3 o) (σ 4 o) (σ 5 o) (σ 15) i from (fun i => by rw [zw_do_y hi78_1, show σ 5 o = x3_78 by omega]; exact hi78_0 i))⟩
        · show V 88 [some (ZR 0), some (ZI o), some (ZI bits), some (ZI x3_78), none, none, none, none, none] [] 41 σ_78
          have e15 : σ_78 15 = zw_as (zu_rf σ o bits) (zx_p2 (σ 0 0) - 1) (σ 6) (18 * o) x3_78 (σ 15) := funext (fun i => hi78_0 i)
          have eF : zu_rf σ_78 o bits = zu_rf σ o bits := funext (fun f => zu_rf_fr (fun i => hFσ_78 2 i (by omega)) (hFσ_78 0 2 (by omega)))
          have eM : σ_78 0 0 = σ 0 0 := hFσ_78 0 0 (by omega)
          have ea1 : σ_78 6 ((18 * o + 6 * x3_78) + 1) = σ 6 ((18 * o + 6 * x3_78) + 1) := hFσ_78 6 _ (by omega)
          have ea2 : σ_78 6 ((18 * o + 6 * x3_78) + 2) = σ 6 ((18 * o + 6 * x3_78) + 2) := hFσ_78 6 _ (by omega)
          have ea3 : σ_78 6 ((18 * o + 6 * x3_78) + 3) = σ 6 ((18 * o + 6 * x3_78) + 3) := hFσ_78 6 _ (by omega)
          have ea4 : σ_78 6 ((18 * o + 6 * x3_78) + 4) = σ 6 ((18 * o + 6 * x3_78) + 4) := hFσ_78 6 _ (by omega)
          have ea5 : σ_78 6 ((18 * o + 6 * x3_78) + 5) = σ 6 ((18 * o + 6 * x3_78) + 5) := hFσ_78 6 _ (by omega)
          have ea0 : σ_78 6 (18 * o + 6 * x3_78) = σ 6 (18 * o + 6 * x3_78) := hFσ_78 6 _ (by omega)
          refine zr_bipush (pc := 88) hV 18 dX12_doOrder_88 (by decide) ?_
          refine zr_iload_n (pc := 90) hV dX12_doOrder_90 rfl rfl ?_
          refine zr_imul (pc := 91) hV dX12_doOrder_91 ?_
          refine zr_bipush (pc := 92) hV 6 dX12_doOrder_92 (by decide) ?_
          refine zr_iload_n (pc := 94) hV dX12_doOrder_94 rfl rfl ?_
          refine zr_imul (pc := 95) hV dX12_doOrder_95 ?_
          refine zr_iadd (pc := 96) hV dX12_doOrder_96 ?_
          refine zr_istore (pc := 97) hV [some (ZR 0), some (ZI o), some (ZI bits), some (ZI x3_78), some (ZI ((18 * o) + (6 * x3_78))), none, none, none, none] dX12_doOrder_97 (by decide) rfl rfl ?_
          refine zr_aload_n (pc := 99) hV dX12_doOrder_99 rfl rfl ?_
          refine zr_iload_n (pc := 100) hV dX12_doOrder_100 rfl rfl ?_
          refine zr_iload_n (pc := 101) hV dX12_doOrder_101 rfl rfl ?_
          refine zr_aload_n (pc := 102) hV dX12_doOrder_102 rfl rfl ?_
          refine zr_getR (pc := 103) hV 9 6 dX12_doOrder_103 fX12_35 rfl rfl rfl (by decide) (zx_g9 hσ_78) (by omega) ?_
          refine zr_iload (pc := 106) hV dX12_doOrder_106 rfl ?_
          refine zr_iconst (pc := 108) hV 1 dX12_doOrder_108 rfl ?_
          refine zr_iadd (pc := 109) hV dX12_doOrder_109 ?_
          refine zr_iald (pc := 110) hV dX12_doOrder_110 rfl (by decide) rfl (by omega) ?_
          have t5 := zx_ac1 hσ_78 (((18 * o) + (6 * x3_78)) + 1) (by omega)
          have t6 : σ_78 6 (((18 * o) + (6 * x3_78)) + 1) = σ 6 (((18 * o) + (6 * x3_78)) + 1) := hFσ_78 _ _ (by omega)
          refine zr_aload_n (pc := 111) hV dX12_doOrder_111 rfl rfl ?_
          refine zr_getR (pc := 112) hV 9 6 dX12_doOrder_112 fX12_35 rfl rfl rfl (by decide) (zx_g9 hσ_78) (by omega) ?_
          refine zr_iload (pc := 115) hV dX12_doOrder_115 rfl ?_
          refine zr_iconst (pc := 117) hV 2 dX12_doOrder_117 rfl ?_
          refine zr_iadd (pc := 118) hV dX12_doOrder_118 ?_
          refine zr_iald (pc := 119) hV dX12_doOrder_119 rfl (by decide) rfl (by omega) ?_
          have t7 := zx_ac hσ_78 (((18 * o) + (6 * x3_78)) + 2)
          have t8 : σ_78 6 (((18 * o) + (6 * x3_78)) + 2) = σ 6 (((18 * o) + (6 * x3_78)) + 2) := hFσ_78 _ _ (by omega)
          refine zr_callVp (pc := 120) hV [ZI o, ZI bits, ZI (σ_78 6 (((18 * o) + (6 * x3_78)) + 1)), ZI (σ_78 6 (((18 * o) + (6 * x3_78)) + 2))] (st := []) (c_X12_valueOf2 (σ := σ_78) hσ_78 o bits (σ_78 6 (((18 * o) + (6 * x3_78)) + 1)) (σ_78 6 (((18 * o) + (6 * x3_78)) + 2)) (by omega) (by omega) (by omega) (by omega) (zx_B_fr (fun i => hFσ_78 2 i (by omega)) (hFσ_78 0 2 (by omega)) q3)) dX12_doOrder_120 mX12_355 rfl (by decide) (by decide) (Nat.le_of_ble_eq_true rfl) (Nat.le_refl _) (fun r120 hr120 pr120 => ?_)
          have t9 := zx_g0 hσ_78
          have t10 : σ_78 0 0 = σ 0 0 := hFσ_78 _ _ (by omega)
          refine zr_istore (pc := 123) hV [some (ZR 0), some (ZI o), some (ZI bits), some (ZI x3_78), some (ZI ((18 * o) + (6 * x3_78))), some (ZI r120), none, none, none] dX12_doOrder_123 (by decide) rfl rfl ?_
          refine zr_aload_n (pc := 125) hV dX12_doOrder_125 rfl rfl ?_
          refine zr_getR (pc := 126) hV 9 6 dX12_doOrder_126 fX12_35 rfl rfl rfl (by decide) (zx_g9 hσ_78) (by omega) ?_
          refine zr_iload (pc := 129) hV dX12_doOrder_129 rfl ?_
          refine zr_iconst (pc := 131) hV 3 dX12_doOrder_131 rfl ?_
          refine zr_iadd (pc := 132) hV dX12_doOrder_132 ?_
          refine zr_iald (pc := 133) hV dX12_doOrder_133 rfl (by decide) rfl (by omega) ?_
          have t11 := zx_ac3 hσ_78 (((18 * o) + (6 * x3_78)) + 3) (by omega)
          have t12 : σ_78 6 (((18 * o) + (6 * x3_78)) + 3) = σ 6 (((18 * o) + (6 * x3_78)) + 3) := hFσ_78 _ _ (by omega)
          have J165 : ∀ (v0_165 : Int), (0 ≤ v0_165 ∧ v0_165 ≤ 255) → (zq_hid (v0_165 = (if 0 < σ 6 ((18 * o + 6 * x3_78) + 3) then zw_va (zu_rf σ o bits) (σ_78 15) (zx_p2 (σ 0 0) - 1) (σ 6 ((18 * o + 6 * x3_78) + 4)) (σ 6 ((18 * o + 6 * x3_78) + 5)) else 0))) → V 165 [some (ZR 0), some (ZI o), some (ZI bits), some (ZI x3_78), some (ZI ((18 * o) + (6 * x3_78))), some (ZI r120), none, none, none] [ZI v0_165] 41 σ_78 := by
            intro v0_165 hv0_165 hi165_0
            show V 165 [some (ZR 0), some (ZI o), some (ZI bits), some (ZI x3_78), some (ZI ((18 * o) + (6 * x3_78))), some (ZI r120), none, none, none] [ZI v0_165] 41 σ_78
            refine zr_istore (pc := 165) hV [some (ZR 0), some (ZI o), some (ZI bits), some (ZI x3_78), some (ZI ((18 * o) + (6 * x3_78))), some (ZI r120), some (ZI v0_165), none, none] dX12_doOrder_165 (by decide) rfl rfl ?_
            refine zr_aload_n (pc := 167) hV dX12_doOrder_167 rfl rfl ?_
            refine zr_getR (pc := 168) hV 9 6 dX12_doOrder_168 fX12_35 rfl rfl rfl (by decide) (zx_g9 hσ_78) (by omega) ?_
            refine zr_iload (pc := 171) hV dX12_doOrder_171 rfl ?_
            refine zr_iconst (pc := 173) hV 3 dX12_doOrder_173 rfl ?_
            refine zr_iadd (pc := 174) hV dX12_doOrder_174 ?_
            refine zr_iald (pc := 175) hV dX12_doOrder_175 rfl (by decide) rfl (by omega) ?_
            have t13 := zx_ac3 hσ_78 (((18 * o) + (6 * x3_78)) + 3) (by omega)
            have t14 : σ_78 6 (((18 * o) + (6 * x3_78)) + 3) = σ 6 (((18 * o) + (6 * x3_78)) + 3) := hFσ_78 _ _ (by omega)
            refine zr_iload (pc := 176) hV dX12_doOrder_176 rfl ?_
            refine zr_iload (pc := 178) hV dX12_doOrder_178 rfl ?_
            refine zr_callSp (pc := 180) hV [ZI (σ_78 6 (((18 * o) + (6 * x3_78)) + 3)), ZI r120, ZI v0_165] (st := []) (c_X12_reckon2 (σ := σ_78) (σ_78 6 (((18 * o) + (6 * x3_78)) + 3)) r120 v0_165 (by omega) (by omega) (by omega)) dX12_doOrder_180 mX12_304 (by decide) (Nat.le_of_ble_eq_true rfl) (Nat.le_refl _) (fun r180 hr180 pr180 => ?_)
            refine zr_aload_n (pc := 183) hV dX12_doOrder_183 rfl rfl ?_
            refine zr_callVp (pc := 184) hV [] (st := [ZI r180]) (c_X12_mask2 (σ := σ_78) hσ_78 ) dX12_doOrder_184 mX12_346 rfl (by decide) (by decide) (Nat.le_of_ble_eq_true rfl) (Nat.le_refl _) (fun r184 hr184 pr184 => ?_)
            have t15 := zx_g0 hσ_78
            have t16 : σ_78 0 0 = σ 0 0 := hFσ_78 _ _ (by omega)
            refine zr_iand (pc := 187) hV dX12_doOrder_187 ?_
            have t17 := zq_and_nnR (x := r180) (y := r184) (by omega)
            refine zr_istore (pc := 188) hV [some (ZR 0), some (ZI o), some (ZI bits), some (ZI x3_78), some (ZI ((18 * o) + (6 * x3_78))), some (ZI r120), some (ZI v0_165), some (ZI (zq_and r180 r184)), none] dX12_doOrder_188 (by decide) rfl rfl ?_
            have v5 : r120 = zw_va (zu_rf σ o bits) (σ_78 15) (zx_p2 (σ 0 0) - 1) (σ 6 ((18 * o + 6 * x3_78) + 1)) (σ 6 ((18 * o + 6 * x3_78) + 2)) := by have z := pr120.2.2; rw [eF, eM, ea1, ea2] at z; exact z
            have vl : zq_and r180 r184 = zw_vl (zu_rf σ o bits) (σ_78 15) (zx_p2 (σ 0 0) - 1) (σ 6) (18 * o + 6 * x3_78) := by unfold zw_vl; rw [← (show v0_165 = (if 0 < σ 6 ((18 * o + 6 * x3_78) + 3) then zw_va (zu_rf σ o bits) (σ_78 15) (zx_p2 (σ 0 0) - 1) (σ 6 ((18 * o + 6 * x3_78) + 4)) (σ 6 ((18 * o + 6 * x3_78) + 5)) else 0) from hi165_0), ← v5, ← ea3]; have z := pr180; have z4 := pr184.2.2; rw [eM] at z4; rw [z, z4]
            refine zr_aload_n (pc := 190) hV dX12_doOrder_190 rfl rfl ?_
            refine zr_getR (pc := 191) hV 9 6 dX12_doOrder_191 fX12_35 rfl rfl rfl (by decide) (zx_g9 hσ_78) (by omega) ?_
            refine zr_iload (pc := 194) hV dX12_doOrder_194 rfl ?_
            refine zr_iald (pc := 196) hV dX12_doOrder_196 rfl (by decide) rfl (by omega) ?_
            have t18 := zx_ac0 hσ_78 ((18 * o) + (6 * x3_78)) (by omega)
            have t19 : σ_78 6 ((18 * o) + (6 * x3_78)) = σ 6 ((18 * o) + (6 * x3_78)) := hFσ_78 _ _ (by omega)
            refine zr_istore (pc := 197) hV [some (ZR 0), some (ZI o), some (ZI bits), some (ZI x3_78), some (ZI ((18 * o) + (6 * x3_78))), some (ZI r120), some (ZI v0_165), some (ZI (zq_and r180 r184)), some (ZI (σ_78 6 ((18 * o) + (6 * x3_78))))] dX12_doOrder_197 (by decide) rfl rfl ?_
            refine zr_iload (pc := 199) hV dX12_doOrder_199 rfl ?_
            refine zr_iconst (pc := 201) hV 3 dX12_doOrder_201 rfl ?_
            refine zr_icmp_ge (pc := 202) hV 223 dX12_doOrder_202 (by decide) (by omega) ⟨by decide, by decide⟩ (fun c20 => ?_) (fun c20 => ?_)
            · show V 223 [some (ZR 0), some (ZI o), some (ZI bits), some (ZI x3_78), some (ZI ((18 * o) + (6 * x3_78))), some (ZI r120), some (ZI v0_165), some (ZI (zq_and r180 r184)), some (ZI (σ_78 6 ((18 * o) + (6 * x3_78))))] [] 41 σ_78
              refine zr_iload (pc := 223) hV dX12_doOrder_223 rfl ?_
              refine zr_iconst (pc := 225) hV 4 dX12_doOrder_225 rfl ?_
              refine zr_icmp_ne (pc := 226) hV 250 dX12_doOrder_226 (by decide) (by omega) ⟨by decide, by decide⟩ (fun c21 => ?_) (fun c21 => ?_)
              · show V 250 [some (ZR 0), some (ZI o), some (ZI bits), some (ZI x3_78), some (ZI ((18 * o) + (6 * x3_78))), some (ZI r120), some (ZI v0_165), some (ZI (zq_and r180 r184)), some (ZI (σ_78 6 ((18 * o) + (6 * x3_78))))] [] 41 σ_78
                refine zr_iload (pc := 250) hV dX12_doOrder_250 rfl ?_
                refine zr_iconst (pc := 252) hV 5 dX12_doOrder_252 rfl ?_
                refine zr_icmp_ne (pc := 253) hV 272 dX12_doOrder_253 (by decide) (by omega) ⟨by decide, by decide⟩ (fun c22 => ?_) (fun c22 => ?_)
                · show V 272 [some (ZR 0), some (ZI o), some (ZI bits), some (ZI x3_78), some (ZI ((18 * o) + (6 * x3_78))), some (ZI r120), some (ZI v0_165), some (ZI (zq_and r180 r184)), some (ZI (σ_78 6 ((18 * o) + (6 * x3_78))))] [] 41 σ_78
                  refine zr_aload_n (pc := 272) hV dX12_doOrder_272 rfl rfl ?_
                  refine zr_getR (pc := 273) hV 24 15 dX12_doOrder_273 fX12_62 rfl rfl rfl (by decide) (zx_g24 hσ_78) (by omega) ?_
                  refine zr_bipush (pc := 276) hV 8 dX12_doOrder_276 (by decide) ?_
                  refine zr_aload_n (pc := 278) hV dX12_doOrder_278 rfl rfl ?_
                  refine zr_iload_n (pc := 279) hV dX12_doOrder_279 rfl rfl ?_
                  refine zr_iload_n (pc := 280) hV dX12_doOrder_280 rfl rfl ?_
                  refine zr_iload (pc := 281) hV dX12_doOrder_281 rfl ?_
                  refine zr_callVp (pc := 283) hV [ZI o, ZI bits, ZI (σ_78 6 ((18 * o) + (6 * x3_78)))] (st := [ZI 8, ZR 15]) (c_X12_addressOf2 (σ := σ_78) hσ_78 o bits (σ_78 6 ((18 * o) + (6 * x3_78))) (by omega) (by omega) (by omega) (zx_B_fr (fun i => hFσ_78 2 i (by omega)) (hFσ_78 0 2 (by omega)) q3)) dX12_doOrder_283 mX12_352 rfl (by decide) (by decide) (Nat.le_of_ble_eq_true rfl) (Nat.le_refl _) (fun r283 hr283 pr283 => ?_)
                  refine zr_iadd (pc := 286) hV dX12_doOrder_286 ?_
                  refine zr_iload (pc := 287) hV dX12_doOrder_287 rfl ?_
                  refine zr_iast (pc := 289) hV dX12_doOrder_289 rfl (by decide) rfl (by omega) (fun σ289 eσ289 => ?_)
                  have hσ289 : zx_T σ289 := zx_ua15 eσ289 hσ_78 (by omega)
                  have hFσ289 : ∀ a i : Int, (¬ (a = 15 ∧ i ≤ 265)) → σ289 a i = σ a i := fun a i h => by rw [eσ289, zq_up_ne (fun q => h ⟨q.1, by omega⟩)]; exact hFσ_78 a i h
                  show V 290 [some (ZR 0), some (ZI o), some (ZI bits), some (ZI x3_78), some (ZI ((18 * o) + (6 * x3_78))), some (ZI r120), some (ZI v0_165), some (ZI (zq_and r180 r184)), some (ZI (σ_78 6 ((18 * o) + (6 * x3_78))))] [] 41 σ289
                  refine zr_iinc (pc := 290) hV [some (ZR 0), some (ZI o), some (ZI bits), some (ZI (x3_78 + 1)), some (ZI ((18 * o) + (6 * x3_78))), some (ZI r120), some (ZI v0_165), some (ZI (zq_and r180 r184)), some (ZI (σ_78 6 ((18 * o) + (6 * x3_78))))] (x3_78 + 1) dX12_doOrder_290 rfl rfl (by decide) rfl rfl ?_
                  refine zr_goto (pc := 293) hV 78 dX12_doOrder_293 (by decide) ?_
                  refine zr_sub (pc := 78) hV [some (ZR 0), some (ZI o), some (ZI bits), some (ZI (x3_78 + 1)), none, none, none, none, none] (⟨rfl, rfl, rfl, rfl, trivial⟩) ?_
                  exact ih78 (x3_78 + 1) σ289 (by omega) hσ289 hFσ289 (fun i => by rw [zw_as_s (by omega), ← e15]; show _ = (if i = zw_ix (zu_rf σ o bits) (σ_78 15) (σ 6 (18 * o + 6 * x3_78)) then zw_nv (σ 6 (18 * o + 6 * x3_78)) (zw_vl (zu_rf σ o bits) (σ_78 15) (zx_p2 (σ 0 0) - 1) (σ 6) (18 * o + 6 * x3_78)) else σ_78 15 i); rw [← vl]; have ix : zw_ix (zu_rf σ o bits) (σ_78 15) (σ 6 (18 * o + 6 * x3_78)) = 8 + r283 := (by unfold zw_ix; rw [if_neg (by omega), if_neg (by omega), if_neg (by omega), ← eF]; have z := pr283.2.2; rw [ea0] at z; rw [← z]); rw [ix, eσ289]; by_cases hc : i = 8 + r283; (rw [if_pos hc, hc, zq_up_same]; unfold zw_nv; rw [if_neg (by omega), if_neg (by omega)]); (rw [if_neg hc, zq_up_ne (by omega)])) hi78_1 (by omega) (by omega)
                · show V 256 [some (ZR 0), some (ZI o), some (ZI bits), some (ZI x3_78), some (ZI ((18 * o) + (6 * x3_78))), some (ZI r120), some (ZI v0_165), some (ZI (zq_and r180 r184)), some (ZI (σ_78 6 ((18 * o) + (6 * x3_78))))] [] 41 σ_78
                  refine zr_aload_n (pc := 256) hV dX12_doOrder_256 rfl rfl ?_
                  refine zr_getR (pc := 257) hV 24 15 dX12_doOrder_257 fX12_62 rfl rfl rfl (by decide) (zx_g24 hσ_78) (by omega) ?_
                  refine zr_sipush (pc := 260) hV 265 dX12_doOrder_260 (by decide) ?_
                  refine zr_iload (pc := 263) hV dX12_doOrder_263 rfl ?_
                  refine zr_bipush (pc := 265) hV 64 dX12_doOrder_265 (by decide) ?_
                  refine zr_irem (pc := 267) hV dX12_doOrder_267 ⟨by decide, by decide⟩ (by omega) ?_
                  have t23 := zq_rem_c (x := zq_and r180 r184) 64 (by decide) (by omega)
                  refine zr_iast (pc := 268) hV dX12_doOrder_268 rfl (by decide) rfl (by omega) (fun σ268 eσ268 => ?_)
                  have hσ268 : zx_T σ268 := zx_ua15 eσ268 hσ_78 (by omega)
                  have hFσ268 : ∀ a i : Int, (¬ (a = 15 ∧ i ≤ 265)) → σ268 a i = σ a i := fun a i h => by rw [eσ268, zq_up_ne (fun q => h ⟨q.1, by omega⟩)]; exact hFσ_78 a i h
                  refine zr_goto (pc := 269) hV 290 dX12_doOrder_269 (by decide) ?_
                  show V 290 [some (ZR 0), some (ZI o), some (ZI bits), some (ZI x3_78), some (ZI ((18 * o) + (6 * x3_78))), some (ZI r120), some (ZI v0_165), some (ZI (zq_and r180 r184)), some (ZI (σ_78 6 ((18 * o) + (6 * x3_78))))] [] 41 σ268
                  refine zr_iinc (pc := 290) hV [some (ZR 0), some (ZI o), some (ZI bits), some (ZI (x3_78 + 1)), some (ZI ((18 * o) + (6 * x3_78))), some (ZI r120), some (ZI v0_165), some (ZI (zq_and r180 r184)), some (ZI (σ_78 6 ((18 * o) + (6 * x3_78))))] (x3_78 + 1) dX12_doOrder_290 rfl rfl (by decide) rfl rfl ?_
                  refine zr_goto (pc := 293) hV 78 dX12_doOrder_293 (by decide) ?_
                  refine zr_sub (pc := 78) hV [some (ZR 0), some (ZI o), some (ZI bits), some (ZI (x3_78 + 1)), none, none, none, none, none] (⟨rfl, rfl, rfl, rfl, trivial⟩) ?_
                  exact ih78 (x3_78 + 1) σ268 (by omega) hσ268 hFσ268 (fun i => by rw [zw_as_s (by omega), ← e15]; show _ = (if i = zw_ix (zu_rf σ o bits) (σ_78 15) (σ 6 (18 * o + 6 * x3_78)) then zw_nv (σ 6 (18 * o + 6 * x3_78)) (zw_vl (zu_rf σ o bits) (σ_78 15) (zx_p2 (σ 0 0) - 1) (σ 6) (18 * o + 6 * x3_78)) else σ_78 15 i); rw [← vl]; have ix : zw_ix (zu_rf σ o bits) (σ_78 15) (σ 6 (18 * o + 6 * x3_78)) = 265 := (by unfold zw_ix; rw [if_neg (by omega), if_neg (by omega), if_pos (by omega)]); rw [ix, eσ268]; by_cases hc : i = 265; (rw [if_pos hc, hc, zq_up_same]; unfold zw_nv; rw [if_neg (by omega), if_pos (by omega)]; omega); (rw [if_neg hc, zq_up_ne (by omega)])) hi78_1 (by omega) (by omega)
              · show V 229 [some (ZR 0), some (ZI o), some (ZI bits), some (ZI x3_78), some (ZI ((18 * o) + (6 * x3_78))), some (ZI r120), some (ZI v0_165), some (ZI (zq_and r180 r184)), some (ZI (σ_78 6 ((18 * o) + (6 * x3_78))))] [] 41 σ_78
                refine zr_aload_n (pc := 229) hV dX12_doOrder_229 rfl rfl ?_
                refine zr_getR (pc := 230) hV 24 15 dX12_doOrder_230 fX12_62 rfl rfl rfl (by decide) (zx_g24 hσ_78) (by omega) ?_
                refine zr_sipush (pc := 233) hV 264 dX12_doOrder_233 (by decide) ?_
                refine zr_iload (pc := 236) hV dX12_doOrder_236 rfl ?_
                refine zr_if_eq (pc := 238) hV 245 dX12_doOrder_238 (by decide) (by omega) (fun c24 => ?_) (fun c24 => ?_)
                · show V 245 [some (ZR 0), some (ZI o), some (ZI bits), some (ZI x3_78), some (ZI ((18 * o) + (6 * x3_78))), some (ZI r120), some (ZI v0_165), some (ZI (zq_and r180 r184)), some (ZI (σ_78 6 ((18 * o) + (6 * x3_78))))] [ZI 264, ZR 15] 41 σ_78
                  refine zr_iconst (pc := 245) hV 0 dX12_doOrder_245 rfl ?_
                  show V 246 [some (ZR 0), some (ZI o), some (ZI bits), some (ZI x3_78), some (ZI ((18 * o) + (6 * x3_78))), some (ZI r120), some (ZI v0_165), some (ZI (zq_and r180 r184)), some (ZI (σ_78 6 ((18 * o) + (6 * x3_78))))] [ZI 0, ZI 264, ZR 15] 41 σ_78
                  refine zr_iast (pc := 246) hV dX12_doOrder_246 rfl (by decide) rfl (by omega) (fun σ246 eσ246 => ?_)
                  have hσ246 : zx_T σ246 := zx_ua15 eσ246 hσ_78 (by omega)
                  have hFσ246 : ∀ a i : Int, (¬ (a = 15 ∧ i ≤ 265)) → σ246 a i = σ a i := fun a i h => by rw [eσ246, zq_up_ne (fun q => h ⟨q.1, by omega⟩)]; exact hFσ_78 a i h
                  refine zr_goto (pc := 247) hV 290 dX12_doOrder_247 (by decide) ?_
                  show V 290 [some (ZR 0), some (ZI o), some (ZI bits), some (ZI x3_78), some (ZI ((18 * o) + (6 * x3_78))), some (ZI r120), some (ZI v0_165), some (ZI (zq_and r180 r184)), some (ZI (σ_78 6 ((18 * o) + (6 * x3_78))))] [] 41 σ246
                  refine zr_iinc (pc := 290) hV [some (ZR 0), some (ZI o), some (ZI bits), some (ZI (x3_78 + 1)), some (ZI ((18 * o) + (6 * x3_78))), some (ZI r120), some (ZI v0_165), some (ZI (zq_and r180 r184)), some (ZI (σ_78 6 ((18 * o) + (6 * x3_78))))] (x3_78 + 1) dX12_doOrder_290 rfl rfl (by decide) rfl rfl ?_
                  refine zr_goto (pc := 293) hV 78 dX12_doOrder_293 (by decide) ?_
                  refine zr_sub (pc := 78) hV [some (ZR 0), some (ZI o), some (ZI bits), some (ZI (x3_78 + 1)), none, none, none, none, none] (⟨rfl, rfl, rfl, rfl, trivial⟩) ?_
                  exact ih78 (x3_78 + 1) σ246 (by omega) hσ246 hFσ246 (fun i => by rw [zw_as_s (by omega), ← e15]; show _ = (if i = zw_ix (zu_rf σ o bits) (σ_78 15) (σ 6 (18 * o + 6 * x3_78)) then zw_nv (σ 6 (18 * o + 6 * x3_78)) (zw_vl (zu_rf σ o bits) (σ_78 15) (zx_p2 (σ 0 0) - 1) (σ 6) (18 * o + 6 * x3_78)) else σ_78 15 i); rw [← vl]; have ix : zw_ix (zu_rf σ o bits) (σ_78 15) (σ 6 (18 * o + 6 * x3_78)) = 264 := (by unfold zw_ix; rw [if_neg (by omega), if_pos (by omega)]); rw [ix, eσ246]; by_cases hc : i = 264; (rw [if_pos hc, hc, zq_up_same]; unfold zw_nv; rw [if_pos (by omega)]; first | rw [if_pos (by omega)] | rw [if_neg (by omega)]); (rw [if_neg hc, zq_up_ne (by omega)])) hi78_1 (by omega) (by omega)
                · show V 241 [some (ZR 0), some (ZI o), some (ZI bits), some (ZI x3_78), some (ZI ((18 * o) + (6 * x3_78))), some (ZI r120), some (ZI v0_165), some (ZI (zq_and r180 r184)), some (ZI (σ_78 6 ((18 * o) + (6 * x3_78))))] [ZI 264, ZR 15] 41 σ_78
                  refine zr_iconst (pc := 241) hV 1 dX12_doOrder_241 rfl ?_
                  refine zr_goto (pc := 242) hV 246 dX12_doOrder_242 (by decide) ?_
                  show V 246 [some (ZR 0), some (ZI o), some (ZI bits), some (ZI x3_78), some (ZI ((18 * o) + (6 * x3_78))), some (ZI r120), some (ZI v0_165), some (ZI (zq_and r180 r184)), some (ZI (σ_78 6 ((18 * o) + (6 * x3_78))))] [ZI 1, ZI 264, ZR 15] 41 σ_78
                  refine zr_iast (pc := 246) hV dX12_doOrder_246 rfl (by decide) rfl (by omega) (fun σ246 eσ246 => ?_)
                  have hσ246 : zx_T σ246 := zx_ua15 eσ246 hσ_78 (by omega)
                  have hFσ246 : ∀ a i : Int, (¬ (a = 15 ∧ i ≤ 265)) → σ246 a i = σ a i := fun a i h => by rw [eσ246, zq_up_ne (fun q => h ⟨q.1, by omega⟩)]; exact hFσ_78 a i h
                  refine zr_goto (pc := 247) hV 290 dX12_doOrder_247 (by decide) ?_
                  show V 290 [some (ZR 0), some (ZI o), some (ZI bits), some (ZI x3_78), some (ZI ((18 * o) + (6 * x3_78))), some (ZI r120), some (ZI v0_165), some (ZI (zq_and r180 r184)), some (ZI (σ_78 6 ((18 * o) + (6 * x3_78))))] [] 41 σ246
                  refine zr_iinc (pc := 290) hV [some (ZR 0), some (ZI o), some (ZI bits), some (ZI (x3_78 + 1)), some (ZI ((18 * o) + (6 * x3_78))), some (ZI r120), some (ZI v0_165), some (ZI (zq_and r180 r184)), some (ZI (σ_78 6 ((18 * o) + (6 * x3_78))))] (x3_78 + 1) dX12_doOrder_290 rfl rfl (by decide) rfl rfl ?_
                  refine zr_goto (pc := 293) hV 78 dX12_doOrder_293 (by decide) ?_
                  refine zr_sub (pc := 78) hV [some (ZR 0), some (ZI o), some (ZI bits), some (ZI (x3_78 + 1)), none, none, none, none, none] (⟨rfl, rfl, rfl, rfl, trivial⟩) ?_
                  exact ih78 (x3_78 + 1) σ246 (by omega) hσ246 hFσ246 (fun i => by rw [zw_as_s (by omega), ← e15]; show _ = (if i = zw_ix (zu_rf σ o bits) (σ_78 15) (σ 6 (18 * o + 6 * x3_78)) then zw_nv (σ 6 (18 * o + 6 * x3_78)) (zw_vl (zu_rf σ o bits) (σ_78 15) (zx_p2 (σ 0 0) - 1) (σ 6) (18 * o + 6 * x3_78)) else σ_78 15 i); rw [← vl]; have ix : zw_ix (zu_rf σ o bits) (σ_78 15) (σ 6 (18 * o + 6 * x3_78)) = 264 := (by unfold zw_ix; rw [if_neg (by omega), if_pos (by omega)]); rw [ix, eσ246]; by_cases hc : i = 264; (rw [if_pos hc, hc, zq_up_same]; unfold zw_nv; rw [if_pos (by omega)]; first | rw [if_pos (by omega)] | rw [if_neg (by omega)]); (rw [if_neg hc, zq_up_ne (by omega)])) hi78_1 (by omega) (by omega)
            · show V 205 [some (ZR 0), some (ZI o), some (ZI bits), some (ZI x3_78), some (ZI ((18 * o) + (6 * x3_78))), some (ZI r120), some (ZI v0_165), some (ZI (zq_and r180 r184)), some (ZI (σ_78 6 ((18 * o) + (6 * x3_78))))] [] 41 σ_78
              refine zr_aload_n (pc := 205) hV dX12_doOrder_205 rfl rfl ?_
              refine zr_getR (pc := 206) hV 24 15 dX12_doOrder_206 fX12_62 rfl rfl rfl (by decide) (zx_g24 hσ_78) (by omega) ?_
              refine zr_aload_n (pc := 209) hV dX12_doOrder_209 rfl rfl ?_
              refine zr_iload_n (pc := 210) hV dX12_doOrder_210 rfl rfl ?_
              refine zr_iload_n (pc := 211) hV dX12_doOrder_211 rfl rfl ?_
              refine zr_iload (pc := 212) hV dX12_doOrder_212 rfl ?_
              refine zr_callVp (pc := 214) hV [ZI o, ZI bits, ZI (σ_78 6 ((18 * o) + (6 * x3_78)))] (st := [ZR 15]) (c_X12_fieldOf2 (σ := σ_78) hσ_78 o bits (σ_78 6 ((18 * o) + (6 * x3_78))) (by omega) (by omega) (by omega) (zx_B_fr (fun i => hFσ_78 2 i (by omega)) (hFσ_78 0 2 (by omega)) q3)) dX12_doOrder_214 mX12_289 rfl (by decide) (by decide) (Nat.le_of_ble_eq_true rfl) (Nat.le_refl _) (fun r214 hr214 pr214 => ?_)
              refine zr_iload (pc := 217) hV dX12_doOrder_217 rfl ?_
              refine zr_iast (pc := 219) hV dX12_doOrder_219 rfl (by decide) rfl (by omega) (fun σ219 eσ219 => ?_)
              have hσ219 : zx_T σ219 := zx_ua15 eσ219 hσ_78 (by omega)
              have hFσ219 : ∀ a i : Int, (¬ (a = 15 ∧ i ≤ 265)) → σ219 a i = σ a i := fun a i h => by rw [eσ219, zq_up_ne (fun q => h ⟨q.1, by omega⟩)]; exact hFσ_78 a i h
              refine zr_goto (pc := 220) hV 290 dX12_doOrder_220 (by decide) ?_
              show V 290 [some (ZR 0), some (ZI o), some (ZI bits), some (ZI x3_78), some (ZI ((18 * o) + (6 * x3_78))), some (ZI r120), some (ZI v0_165), some (ZI (zq_and r180 r184)), some (ZI (σ_78 6 ((18 * o) + (6 * x3_78))))] [] 41 σ219
              refine zr_iinc (pc := 290) hV [some (ZR 0), some (ZI o), some (ZI bits), some (ZI (x3_78 + 1)), some (ZI ((18 * o) + (6 * x3_78))), some (ZI r120), some (ZI v0_165), some (ZI (zq_and r180 r184)), some (ZI (σ_78 6 ((18 * o) + (6 * x3_78))))] (x3_78 + 1) dX12_doOrder_290 rfl rfl (by decide) rfl rfl ?_
              refine zr_goto (pc := 293) hV 78 dX12_doOrder_293 (by decide) ?_
              refine zr_sub (pc := 78) hV [some (ZR 0), some (ZI o), some (ZI bits), some (ZI (x3_78 + 1)), none, none, none, none, none] (⟨rfl, rfl, rfl, rfl, trivial⟩) ?_
              exact ih78 (x3_78 + 1) σ219 (by omega) hσ219 hFσ219 (fun i => by rw [zw_as_s (by omega), ← e15]; show _ = (if i = zw_ix (zu_rf σ o bits) (σ_78 15) (σ 6 (18 * o + 6 * x3_78)) then zw_nv (σ 6 (18 * o + 6 * x3_78)) (zw_vl (zu_rf σ o bits) (σ_78 15) (zx_p2 (σ 0 0) - 1) (σ 6) (18 * o + 6 * x3_78)) else σ_78 15 i); rw [← vl]; have ix : zw_ix (zu_rf σ o bits) (σ_78 15) (σ 6 (18 * o + 6 * x3_78)) = r214 := (by unfold zw_ix; rw [if_pos (by omega), ← eF]; have z := pr214.2.2.2; rw [ea0] at z; exact z.symm); rw [ix, eσ219]; by_cases hc : i = r214; (rw [if_pos hc, hc, zq_up_same]; unfold zw_nv; rw [if_neg (by omega), if_neg (by omega)]); (rw [if_neg hc, zq_up_ne (by omega)])) hi78_1 (by omega) (by omega)
          refine zr_if_le (pc := 134) hV 164 dX12_doOrder_134 (by decide) (by omega) (fun c25 => ?_) (fun c25 => ?_)
          · show V 164 [some (ZR 0), some (ZI o), some (ZI bits), some (ZI x3_78), some (ZI ((18 * o) + (6 * x3_78))), some (ZI r120), none, none, none] [] 41 σ_78
            refine zr_iconst (pc := 164) hV 0 dX12_doOrder_164 rfl ?_
            exact J165 0 (by omega) (by unfold zq_hid; rw [if_neg (by omega)])
          · show V 137 [some (ZR 0), some (ZI o), some (ZI bits), some (ZI x3_78), some (ZI ((18 * o) + (6 * x3_78))), some (ZI r120), none, none, none] [] 41 σ_78
            refine zr_aload_n (pc := 137) hV dX12_doOrder_137 rfl rfl ?_
            refine zr_iload_n (pc := 138) hV dX12_doOrder_138 rfl rfl ?_
            refine zr_iload_n (pc := 139) hV dX12_doOrder_139 rfl rfl ?_
            refine zr_aload_n (pc := 140) hV dX12_doOrder_140 rfl rfl ?_
            refine zr_getR (pc := 141) hV 9 6 dX12_doOrder_141 fX12_35 rfl rfl rfl (by decide) (zx_g9 hσ_78) (by omega) ?_
            refine zr_iload (pc := 144) hV dX12_doOrder_144 rfl ?_
            refine zr_iconst (pc := 146) hV 4 dX12_doOrder_146 rfl ?_
            refine zr_iadd (pc := 147) hV dX12_doOrder_147 ?_
            refine zr_iald (pc := 148) hV dX12_doOrder_148 rfl (by decide) rfl (by omega) ?_
            have t26 := zx_ac4 hσ_78 (((18 * o) + (6 * x3_78)) + 4) (by omega)
            have t27 : σ_78 6 (((18 * o) + (6 * x3_78)) + 4) = σ 6 (((18 * o) + (6 * x3_78)) + 4) := hFσ_78 _ _ (by omega)
            have za := q2 x3_78 (by omega) (by omega)
            refine zr_aload_n (pc := 149) hV dX12_doOrder_149 rfl rfl ?_
            refine zr_getR (pc := 150) hV 9 6 dX12_doOrder_150 fX12_35 rfl rfl rfl (by decide) (zx_g9 hσ_78) (by omega) ?_
            refine zr_iload (pc := 153) hV dX12_doOrder_153 rfl ?_
            refine zr_iconst (pc := 155) hV 5 dX12_doOrder_155 rfl ?_
            refine zr_iadd (pc := 156) hV dX12_doOrder_156 ?_
            refine zr_iald (pc := 157) hV dX12_doOrder_157 rfl (by decide) rfl (by omega) ?_
            have t28 := zx_ac hσ_78 (((18 * o) + (6 * x3_78)) + 5)
            have t29 : σ_78 6 (((18 * o) + (6 * x3_78)) + 5) = σ 6 (((18 * o) + (6 * x3_78)) + 5) := hFσ_78 _ _ (by omega)
            refine zr_callVp (pc := 158) hV [ZI o, ZI bits, ZI (σ_78 6 (((18 * o) + (6 * x3_78)) + 4)), ZI (σ_78 6 (((18 * o) + (6 * x3_78)) + 5))] (st := []) (c_X12_valueOf2 (σ := σ_78) hσ_78 o bits (σ_78 6 (((18 * o) + (6 * x3_78)) + 4)) (σ_78 6 (((18 * o) + (6 * x3_78)) + 5)) (by omega) (by omega) (by omega) (by omega) (zx_B_fr (fun i => hFσ_78 2 i (by omega)) (hFσ_78 0 2 (by omega)) q3)) dX12_doOrder_158 mX12_355 rfl (by decide) (by decide) (Nat.le_of_ble_eq_true rfl) (Nat.le_refl _) (fun r158 hr158 pr158 => ?_)
            have t30 := zx_g0 hσ_78
            have t31 : σ_78 0 0 = σ 0 0 := hFσ_78 _ _ (by omega)
            refine zr_goto (pc := 161) hV 165 dX12_doOrder_161 (by decide) ?_
            exact J165 r158 (by omega) (by unfold zq_hid; rw [if_pos (by omega)]; have z := pr158.2.2; rw [eF, eM, ea4, ea5] at z; exact z)
    exact L78 (3 - (0 : Int) + 1 : Int).toNat 0 σ (by omega) hσ (fun a i _ => rfl) (fun i => by rw [zw_as_0]) hi76_0 (by omega) (by omega)
  refine zr_if_le (pc := 6) hV 76 dX12_doOrder_6 (by decide) (by omega) (fun c32 => ?_) (fun c32 => ?_)
  · exact J76 (by unfold zq_hid zw_gd; first | exact Or.inl (by omega) | exact Or.inr (by rw [if_pos (by omega)]; omega) | exact Or.inr (by rw [if_neg (by omega), ← pr43.2.2.2]; omega))
  · show V 9 [some (ZR 0), some (ZI o), some (ZI bits), none, none, none, none, none, none] [] 41 σ
    refine zr_aload_n (pc := 9) hV dX12_doOrder_9 rfl rfl ?_
    refine zr_getR (pc := 10) hV 7 4 dX12_doOrder_10 fX12_29 rfl rfl rfl (by decide) (zx_g7 hσ) (by omega) ?_
    refine zr_iload_n (pc := 13) hV dX12_doOrder_13 rfl rfl ?_
    refine zr_iald (pc := 14) hV dX12_doOrder_14 rfl (by decide) rfl (by omega) ?_
    have t33 := zx_ga4 hσ o
    refine zr_iconst (pc := 15) hV 4 dX12_doOrder_15 rfl ?_
    refine zr_icmp_ne (pc := 16) hV 30 dX12_doOrder_16 (by decide) (by omega) ⟨by decide, by decide⟩ (fun c34 => ?_) (fun c34 => ?_)
    · show V 30 [some (ZR 0), some (ZI o), some (ZI bits), none, none, none, none, none, none] [] 41 σ
      refine zr_aload_n (pc := 30) hV dX12_doOrder_30 rfl rfl ?_
      refine zr_getR (pc := 31) hV 24 15 dX12_doOrder_31 fX12_62 rfl rfl rfl (by decide) (zx_g24 hσ) (by omega) ?_
      refine zr_aload_n (pc := 34) hV dX12_doOrder_34 rfl rfl ?_
      refine zr_iload_n (pc := 35) hV dX12_doOrder_35 rfl rfl ?_
      refine zr_iload_n (pc := 36) hV dX12_doOrder_36 rfl rfl ?_
      refine zr_aload_n (pc := 37) hV dX12_doOrder_37 rfl rfl ?_
      refine zr_getR (pc := 38) hV 7 4 dX12_doOrder_38 fX12_29 rfl rfl rfl (by decide) (zx_g7 hσ) (by omega) ?_
      refine zr_iload_n (pc := 41) hV dX12_doOrder_41 rfl rfl ?_
      refine zr_iald (pc := 42) hV dX12_doOrder_42 rfl (by decide) rfl (by omega) ?_
      have t35 := zx_ga4 hσ o
      refine zr_callVp (pc := 43) hV [ZI o, ZI bits, ZI (σ 4 o)] (st := [ZR 15]) (c_X12_fieldOf2 (σ := σ) hσ o bits (σ 4 o) (by omega) (by omega) (by omega) q3) dX12_doOrder_43 mX12_289 rfl (by decide) (by decide) (Nat.le_of_ble_eq_true rfl) (Nat.le_refl _) (fun r43 hr43 pr43 => ?_)
      refine zr_iald (pc := 46) hV dX12_doOrder_46 rfl (by decide) rfl (by omega) ?_
      have t36 := zx_stW hσ r43 (by omega)
      show V 47 [some (ZR 0), some (ZI o), some (ZI bits), none, none, none, none, none, none] [ZI (σ 15 r43)] 41 σ
      refine zr_istore_n (pc := 47) hV [some (ZR 0), some (ZI o), some (ZI bits), some (ZI (σ 15 r43)), none, none, none, none, none] dX12_doOrder_47 rfl (by decide) rfl rfl ?_
      refine zr_iload_n (pc := 48) hV dX12_doOrder_48 rfl rfl ?_
      refine zr_if_eq (pc := 49) hV 56 dX12_doOrder_49 (by decide) (by omega) (fun c37 => ?_) (fun c37 => ?_)
      · show V 56 [some (ZR 0), some (ZI o), some (ZI bits), some (ZI (σ 15 r43)), none, none, none, none, none] [] 41 σ
        refine zr_iconst (pc := 56) hV 0 dX12_doOrder_56 rfl ?_
        show V 57 [some (ZR 0), some (ZI o), some (ZI bits), some (ZI (σ 15 r43)), none, none, none, none, none] [ZI 0] 41 σ
        refine zr_aload_n (pc := 57) hV dX12_doOrder_57 rfl rfl ?_
        refine zr_getR (pc := 58) hV 6 3 dX12_doOrder_58 fX12_26 rfl rfl rfl (by decide) (zx_g6 hσ) (by omega) ?_
        refine zr_iload_n (pc := 61) hV dX12_doOrder_61 rfl rfl ?_
        refine zr_iald (pc := 62) hV dX12_doOrder_62 rfl (by decide) rfl (by omega) ?_
        have t38 := zx_ga3 hσ o
        refine zr_iconst (pc := 63) hV 1 dX12_doOrder_63 rfl ?_
        refine zr_icmp_ne (pc := 64) hV 71 dX12_doOrder_64 (by decide) (by omega) ⟨by decide, by decide⟩ (fun c39 => ?_) (fun c39 => ?_)
        · show V 71 [some (ZR 0), some (ZI o), some (ZI bits), some (ZI (σ 15 r43)), none, none, none, none, none] [ZI 0] 41 σ
          refine zr_iconst (pc := 71) hV 0 dX12_doOrder_71 rfl ?_
          show V 72 [some (ZR 0), some (ZI o), some (ZI bits), some (ZI (σ 15 r43)), none, none, none, none, none] [ZI 0, ZI 0] 41 σ
          refine zr_icmp_eq (pc := 72) hV 76 dX12_doOrder_72 (by decide) ⟨by decide, by decide⟩ ⟨by decide, by decide⟩ (fun c40 => ?_) (fun c40 => ?_)
          · refine zr_sub (pc := 76) hV [some (ZR 0), some (ZI o), some (ZI bits), none, none, none, none, none, none] (⟨rfl, rfl, rfl, trivial⟩) ?_
            exact J76 (by unfold zq_hid zw_gd; first | exact Or.inl (by omega) | exact Or.inr (by rw [if_pos (by omega)]; omega) | exact Or.inr (by rw [if_neg (by omega), ← pr43.2.2.2]; omega))
          · exfalso; omega
        · show V 67 [some (ZR 0), some (ZI o), some (ZI bits), some (ZI (σ 15 r43)), none, none, none, none, none] [ZI 0] 41 σ
          refine zr_iconst (pc := 67) hV 1 dX12_doOrder_67 rfl ?_
          refine zr_goto (pc := 68) hV 72 dX12_doOrder_68 (by decide) ?_
          show V 72 [some (ZR 0), some (ZI o), some (ZI bits), some (ZI (σ 15 r43)), none, none, none, none, none] [ZI 1, ZI 0] 41 σ
          refine zr_icmp_eq (pc := 72) hV 76 dX12_doOrder_72 (by decide) ⟨by decide, by decide⟩ ⟨by decide, by decide⟩ (fun c41 => ?_) (fun c41 => ?_)
          · exfalso; omega
          · show V 75 [some (ZR 0), some (ZI o), some (ZI bits), some (ZI (σ 15 r43)), none, none, none, none, none] [] 41 σ
            exact zr_vret (pc := 75) hV dX12_doOrder_75 rfl rfl ⟨rfl, hσ, (fun a i _ => rfl), trivial, (show ∀ i, σ 15 i = zw_do (zu_rf σ o bits) (zx_p2 (σ 0 0) - 1) (σ 6) o (σ 3 o) (σ 4 o) (σ 5 o) (σ 15) i from (fun i => by rw [zw_do_n (fun q => by rcases q with q | q; omega; first | (rw [if_pos (by omega)] at q; omega) | (rw [if_neg (by omega), ← pr43.2.2.2] at q; omega))]))⟩
      · show V 52 [some (ZR 0), some (ZI o), some (ZI bits), some (ZI (σ 15 r43)), none, none, none, none, none] [] 41 σ
        refine zr_iconst (pc := 52) hV 1 dX12_doOrder_52 rfl ?_
        refine zr_goto (pc := 53) hV 57 dX12_doOrder_53 (by decide) ?_
        show V 57 [some (ZR 0), some (ZI o), some (ZI bits), some (ZI (σ 15 r43)), none, none, none, none, none] [ZI 1] 41 σ
        refine zr_aload_n (pc := 57) hV dX12_doOrder_57 rfl rfl ?_
        refine zr_getR (pc := 58) hV 6 3 dX12_doOrder_58 fX12_26 rfl rfl rfl (by decide) (zx_g6 hσ) (by omega) ?_
        refine zr_iload_n (pc := 61) hV dX12_doOrder_61 rfl rfl ?_
        refine zr_iald (pc := 62) hV dX12_doOrder_62 rfl (by decide) rfl (by omega) ?_
        have t42 := zx_ga3 hσ o
        refine zr_iconst (pc := 63) hV 1 dX12_doOrder_63 rfl ?_
        refine zr_icmp_ne (pc := 64) hV 71 dX12_doOrder_64 (by decide) (by omega) ⟨by decide, by decide⟩ (fun c43 => ?_) (fun c43 => ?_)
        · show V 71 [some (ZR 0), some (ZI o), some (ZI bits), some (ZI (σ 15 r43)), none, none, none, none, none] [ZI 1] 41 σ
          refine zr_iconst (pc := 71) hV 0 dX12_doOrder_71 rfl ?_
          show V 72 [some (ZR 0), some (ZI o), some (ZI bits), some (ZI (σ 15 r43)), none, none, none, none, none] [ZI 0, ZI 1] 41 σ
          refine zr_icmp_eq (pc := 72) hV 76 dX12_doOrder_72 (by decide) ⟨by decide, by decide⟩ ⟨by decide, by decide⟩ (fun c44 => ?_) (fun c44 => ?_)
          · exfalso; omega
          · show V 75 [some (ZR 0), some (ZI o), some (ZI bits), some (ZI (σ 15 r43)), none, none, none, none, none] [] 41 σ
            exact zr_vret (pc := 75) hV dX12_doOrder_75 rfl rfl ⟨rfl, hσ, (fun a i _ => rfl), trivial, (show ∀ i, σ 15 i = zw_do (zu_rf σ o bits) (zx_p2 (σ 0 0) - 1) (σ 6) o (σ 3 o) (σ 4 o) (σ 5 o) (σ 15) i from (fun i => by rw [zw_do_n (fun q => by rcases q with q | q; omega; first | (rw [if_pos (by omega)] at q; omega) | (rw [if_neg (by omega), ← pr43.2.2.2] at q; omega))]))⟩
        · show V 67 [some (ZR 0), some (ZI o), some (ZI bits), some (ZI (σ 15 r43)), none, none, none, none, none] [ZI 1] 41 σ
          refine zr_iconst (pc := 67) hV 1 dX12_doOrder_67 rfl ?_
          refine zr_goto (pc := 68) hV 72 dX12_doOrder_68 (by decide) ?_
          show V 72 [some (ZR 0), some (ZI o), some (ZI bits), some (ZI (σ 15 r43)), none, none, none, none, none] [ZI 1, ZI 1] 41 σ
          refine zr_icmp_eq (pc := 72) hV 76 dX12_doOrder_72 (by decide) ⟨by decide, by decide⟩ ⟨by decide, by decide⟩ (fun c45 => ?_) (fun c45 => ?_)
          · refine zr_sub (pc := 76) hV [some (ZR 0), some (ZI o), some (ZI bits), none, none, none, none, none, none] (⟨rfl, rfl, rfl, trivial⟩) ?_
            exact J76 (by unfold zq_hid zw_gd; first | exact Or.inl (by omega) | exact Or.inr (by rw [if_pos (by omega)]; omega) | exact Or.inr (by rw [if_neg (by omega), ← pr43.2.2.2]; omega))
          · exfalso; omega
    · show V 19 [some (ZR 0), some (ZI o), some (ZI bits), none, none, none, none, none, none] [] 41 σ
      refine zr_aload_n (pc := 19) hV dX12_doOrder_19 rfl rfl ?_
      refine zr_getR (pc := 20) hV 24 15 dX12_doOrder_20 fX12_62 rfl rfl rfl (by decide) (zx_g24 hσ) (by omega) ?_
      refine zr_sipush (pc := 23) hV 264 dX12_doOrder_23 (by decide) ?_
      refine zr_iald (pc := 26) hV dX12_doOrder_26 rfl (by decide) rfl (by omega) ?_
      have t46 := zx_stZ hσ
      refine zr_goto (pc := 27) hV 47 dX12_doOrder_27 (by decide) ?_
      show V 47 [some (ZR 0), some (ZI o), some (ZI bits), none, none, none, none, none, none] [ZI (σ 15 264)] 41 σ
      refine zr_istore_n (pc := 47) hV [some (ZR 0), some (ZI o), some (ZI bits), some (ZI (σ 15 264)), none, none, none, none, none] dX12_doOrder_47 rfl (by decide) rfl rfl ?_
      refine zr_iload_n (pc := 48) hV dX12_doOrder_48 rfl rfl ?_
      refine zr_if_eq (pc := 49) hV 56 dX12_doOrder_49 (by decide) (by omega) (fun c47 => ?_) (fun c47 => ?_)
      · show V 56 [some (ZR 0), some (ZI o), some (ZI bits), some (ZI (σ 15 264)), none, none, none, none, none] [] 41 σ
        refine zr_iconst (pc := 56) hV 0 dX12_doOrder_56 rfl ?_
        show V 57 [some (ZR 0), some (ZI o), some (ZI bits), some (ZI (σ 15 264)), none, none, none, none, none] [ZI 0] 41 σ
        refine zr_aload_n (pc := 57) hV dX12_doOrder_57 rfl rfl ?_
        refine zr_getR (pc := 58) hV 6 3 dX12_doOrder_58 fX12_26 rfl rfl rfl (by decide) (zx_g6 hσ) (by omega) ?_
        refine zr_iload_n (pc := 61) hV dX12_doOrder_61 rfl rfl ?_
        refine zr_iald (pc := 62) hV dX12_doOrder_62 rfl (by decide) rfl (by omega) ?_
        have t48 := zx_ga3 hσ o
        refine zr_iconst (pc := 63) hV 1 dX12_doOrder_63 rfl ?_
        refine zr_icmp_ne (pc := 64) hV 71 dX12_doOrder_64 (by decide) (by omega) ⟨by decide, by decide⟩ (fun c49 => ?_) (fun c49 => ?_)
        · show V 71 [some (ZR 0), some (ZI o), some (ZI bits), some (ZI (σ 15 264)), none, none, none, none, none] [ZI 0] 41 σ
          refine zr_iconst (pc := 71) hV 0 dX12_doOrder_71 rfl ?_
          show V 72 [some (ZR 0), some (ZI o), some (ZI bits), some (ZI (σ 15 264)), none, none, none, none, none] [ZI 0, ZI 0] 41 σ
          refine zr_icmp_eq (pc := 72) hV 76 dX12_doOrder_72 (by decide) ⟨by decide, by decide⟩ ⟨by decide, by decide⟩ (fun c50 => ?_) (fun c50 => ?_)
          · refine zr_sub (pc := 76) hV [some (ZR 0), some (ZI o), some (ZI bits), none, none, none, none, none, none] (⟨rfl, rfl, rfl, trivial⟩) ?_
            exact J76 (by unfold zq_hid zw_gd; first | exact Or.inl (by omega) | exact Or.inr (by rw [if_pos (by omega)]; omega) | exact Or.inr (by rw [if_neg (by omega), ← pr43.2.2.2]; omega))
          · exfalso; omega
        · show V 67 [some (ZR 0), some (ZI o), some (ZI bits), some (ZI (σ 15 264)), none, none, none, none, none] [ZI 0] 41 σ
          refine zr_iconst (pc := 67) hV 1 dX12_doOrder_67 rfl ?_
          refine zr_goto (pc := 68) hV 72 dX12_doOrder_68 (by decide) ?_
          show V 72 [some (ZR 0), some (ZI o), some (ZI bits), some (ZI (σ 15 264)), none, none, none, none, none] [ZI 1, ZI 0] 41 σ
          refine zr_icmp_eq (pc := 72) hV 76 dX12_doOrder_72 (by decide) ⟨by decide, by decide⟩ ⟨by decide, by decide⟩ (fun c51 => ?_) (fun c51 => ?_)
          · exfalso; omega
          · show V 75 [some (ZR 0), some (ZI o), some (ZI bits), some (ZI (σ 15 264)), none, none, none, none, none] [] 41 σ
            exact zr_vret (pc := 75) hV dX12_doOrder_75 rfl rfl ⟨rfl, hσ, (fun a i _ => rfl), trivial, (show ∀ i, σ 15 i = zw_do (zu_rf σ o bits) (zx_p2 (σ 0 0) - 1) (σ 6) o (σ 3 o) (σ 4 o) (σ 5 o) (σ 15) i from (fun i => by rw [zw_do_n (fun q => by rcases q with q | q; omega; first | (rw [if_pos (by omega)] at q; omega) | (rw [if_neg (by omega), ← pr43.2.2.2] at q; omega))]))⟩
      · show V 52 [some (ZR 0), some (ZI o), some (ZI bits), some (ZI (σ 15 264)), none, none, none, none, none] [] 41 σ
        refine zr_iconst (pc := 52) hV 1 dX12_doOrder_52 rfl ?_
        refine zr_goto (pc := 53) hV 57 dX12_doOrder_53 (by decide) ?_
        show V 57 [some (ZR 0), some (ZI o), some (ZI bits), some (ZI (σ 15 264)), none, none, none, none, none] [ZI 1] 41 σ
        refine zr_aload_n (pc := 57) hV dX12_doOrder_57 rfl rfl ?_
        refine zr_getR (pc := 58) hV 6 3 dX12_doOrder_58 fX12_26 rfl rfl rfl (by decide) (zx_g6 hσ) (by omega) ?_
        refine zr_iload_n (pc := 61) hV dX12_doOrder_61 rfl rfl ?_
        refine zr_iald (pc := 62) hV dX12_doOrder_62 rfl (by decide) rfl (by omega) ?_
        have t52 := zx_ga3 hσ o
        refine zr_iconst (pc := 63) hV 1 dX12_doOrder_63 rfl ?_
        refine zr_icmp_ne (pc := 64) hV 71 dX12_doOrder_64 (by decide) (by omega) ⟨by decide, by decide⟩ (fun c53 => ?_) (fun c53 => ?_)
        · show V 71 [some (ZR 0), some (ZI o), some (ZI bits), some (ZI (σ 15 264)), none, none, none, none, none] [ZI 1] 41 σ
          refine zr_iconst (pc := 71) hV 0 dX12_doOrder_71 rfl ?_
          show V 72 [some (ZR 0), some (ZI o), some (ZI bits), some (ZI (σ 15 264)), none, none, none, none, none] [ZI 0, ZI 1] 41 σ
          refine zr_icmp_eq (pc := 72) hV 76 dX12_doOrder_72 (by decide) ⟨by decide, by decide⟩ ⟨by decide, by decide⟩ (fun c54 => ?_) (fun c54 => ?_)
          · exfalso; omega
          · show V 75 [some (ZR 0), some (ZI o), some (ZI bits), some (ZI (σ 15 264)), none, none, none, none, none] [] 41 σ
            exact zr_vret (pc := 75) hV dX12_doOrder_75 rfl rfl ⟨rfl, hσ, (fun a i _ => rfl), trivial, (show ∀ i, σ 15 i = zw_do (zu_rf σ o bits) (zx_p2 (σ 0 0) - 1) (σ 6) o (σ 3 o) (σ 4 o) (σ 5 o) (σ 15) i from (fun i => by rw [zw_do_n (fun q => by rcases q with q | q; omega; first | (rw [if_pos (by omega)] at q; omega) | (rw [if_neg (by omega), ← pr43.2.2.2] at q; omega))]))⟩
        · show V 67 [some (ZR 0), some (ZI o), some (ZI bits), some (ZI (σ 15 264)), none, none, none, none, none] [ZI 1] 41 σ
          refine zr_iconst (pc := 67) hV 1 dX12_doOrder_67 rfl ?_
          refine zr_goto (pc := 68) hV 72 dX12_doOrder_68 (by decide) ?_
          show V 72 [some (ZR 0), some (ZI o), some (ZI bits), some (ZI (σ 15 264)), none, none, none, none, none] [ZI 1, ZI 1] 41 σ
          refine zr_icmp_eq (pc := 72) hV 76 dX12_doOrder_72 (by decide) ⟨by decide, by decide⟩ ⟨by decide, by decide⟩ (fun c55 => ?_) (fun c55 => ?_)
          · refine zr_sub (pc := 76) hV [some (ZR 0), some (ZI o), some (ZI bits), none, none, none, none, none, none] (⟨rfl, rfl, rfl, trivial⟩) ?_
            exact J76 (by unfold zq_hid zw_gd; first | exact Or.inl (by omega) | exact Or.inr (by rw [if_pos (by omega)]; omega) | exact Or.inr (by rw [if_neg (by omega), ← pr43.2.2.2]; omega))
          · exfalso; omega
set_option maxHeartbeats 800000 in
theorem c_X12_keepPast2 {σ : zq_S} (hσ : zx_T σ)  : zq_C zx_w yX12_keepPast cX12_keepPast 2 (none) 0 0 41 41 [ZR 0] σ (zq_pv (fun τ => zx_T τ ∧ (∀ a i : Int, (¬ (a = 0 ∧ i = 26) ∧ ¬ (a = 0 ∧ i = 27) ∧ a ≠ 16) → τ a i = σ a i) ∧ (τ 0 27 = (σ 0 27 + 1) % 100 ∧ τ 0 26 = (if σ 0 26 < 100 then σ 0 26 + 1 else 100)) ∧ zq_hid (∀ j, τ 16 j = if 336 * σ 0 27 ≤ j ∧ j < 336 * σ 0 27 + 336 then σ 15 (j - 336 * σ 0 27) else σ 16 j))) := by
  refine zq_C_of (by decide) (Nat.le_refl _) (Nat.le_of_ble_eq_true rfl) [some (ZR 0), none] rfl (fun V hV => ?_)
  show V 0 [some (ZR 0), none] [] 41 σ
  refine zr_iconst (pc := 0) hV 0 dX12_keepPast_0 rfl ?_
  refine zr_istore_n (pc := 1) hV [some (ZR 0), some (ZI 0)] dX12_keepPast_1 rfl (by decide) rfl rfl ?_
  have L2 : ∀ (fuel : Nat) (x1_2 : Int) (σ_2 : zq_S), (0 ≤ x1_2 ∧ x1_2 ≤ 336) → (zx_T σ_2) → (∀ a i : Int, (¬ (a = 0 ∧ i = 26) ∧ ¬ (a = 0 ∧ i = 27) ∧ a ≠ 16) → σ_2 a i = σ a i) → (zq_hid (∀ j, σ_2 16 j = if 336 * σ 0 27 ≤ j ∧ j < 336 * σ 0 27 + x1_2 then σ 15 (j - 336 * σ 0 27) else σ 16 j)) → (σ_2 0 27 = σ 0 27) → (σ_2 0 26 = σ 0 26) → (x1_2 ≤ 336) → 336 - x1_2 < (fuel : Int) → V 2 [some (ZR 0), some (ZI x1_2)] [] 41 σ_2 := by
    intro fuel
    induction fuel with
    | zero =>
      intro x1_2 σ_2 hx1_2 hσ_2 hFσ_2 hi2_0 hi2_1 hi2_2 hi2_3 hm2
      exfalso; omega
    | succ fuel ih =>
      intro x1_2 σ_2 hx1_2 hσ_2 hFσ_2 hi2_0 hi2_1 hi2_2 hi2_3 hm2
      have ih2 := ih
      show V 2 [some (ZR 0), some (ZI x1_2)] [] 41 σ_2
      refine zr_iload_n (pc := 2) hV dX12_keepPast_2 rfl rfl ?_
      refine zr_sipush (pc := 3) hV 336 dX12_keepPast_3 (by decide) ?_
      refine zr_icmp_ge (pc := 6) hV 36 dX12_keepPast_6 (by decide) (by omega) ⟨by decide, by decide⟩ (fun c1 => ?_) (fun c1 => ?_)
      · show V 36 [some (ZR 0), some (ZI x1_2)] [] 41 σ_2
        refine zr_aload_n (pc := 36) hV dX12_keepPast_36 rfl rfl ?_
        refine zr_aload_n (pc := 37) hV dX12_keepPast_37 rfl rfl ?_
        refine zr_getI (pc := 38) hV 27 dX12_keepPast_38 fX12_365 rfl rfl rfl (by decide) ?_
        have t2 := zx_g27 hσ_2
        refine zr_iconst (pc := 41) hV 1 dX12_keepPast_41 rfl ?_
        refine zr_iadd (pc := 42) hV dX12_keepPast_42 ?_
        refine zr_bipush (pc := 43) hV 100 dX12_keepPast_43 (by decide) ?_
        refine zr_irem (pc := 45) hV dX12_keepPast_45 ⟨by decide, by decide⟩ (by omega) ?_
        have t3 := zq_rem_c (x := (σ_2 0 27) + 1) 100 (by decide) (by omega)
        refine zr_putI (pc := 46) hV 27 dX12_keepPast_46 fX12_365 rfl rfl rfl rfl (by decide) (fun σ46 eσ46 => ?_)
        have hσ46 : zx_T σ46 := zx_u27 eσ46 hσ_2 (by omega)
        have hFσ46 : ∀ a i : Int, (¬ (a = 0 ∧ i = 26) ∧ ¬ (a = 0 ∧ i = 27) ∧ a ≠ 16) → σ46 a i = σ a i := fun a i h => by rw [eσ46, zq_up_ne h.2.1]; exact hFσ_2 a i h
        refine zr_aload_n (pc := 49) hV dX12_keepPast_49 rfl rfl ?_
        refine zr_dup (pc := 50) hV dX12_keepPast_50 (fun _ => rfl) ?_
        refine zr_getI (pc := 51) hV 26 dX12_keepPast_51 fX12_341 rfl rfl rfl (by decide) ?_
        have t4 := zx_g26 hσ46
        have t5 : σ46 0 26 = σ_2 0 26 := by rw [eσ46]; exact zq_up_ne (by omega)
        refine zr_aload_n (pc := 54) hV dX12_keepPast_54 rfl rfl ?_
        refine zr_getI (pc := 55) hV 26 dX12_keepPast_55 fX12_341 rfl rfl rfl (by decide) ?_
        have t6 := zx_g26 hσ46
        have t7 : σ46 0 26 = σ_2 0 26 := by rw [eσ46]; exact zq_up_ne (by omega)
        refine zr_bipush (pc := 58) hV 100 dX12_keepPast_58 (by decide) ?_
        refine zr_icmp_ge (pc := 60) hV 67 dX12_keepPast_60 (by decide) (by omega) ⟨by decide, by decide⟩ (fun c8 => ?_) (fun c8 => ?_)
        · show V 67 [some (ZR 0), some (ZI x1_2)] [ZI (σ46 0 26), ZR 0] 41 σ46
          refine zr_iconst (pc := 67) hV 0 dX12_keepPast_67 rfl ?_
          show V 68 [some (ZR 0), some (ZI x1_2)] [ZI 0, ZI (σ46 0 26), ZR 0] 41 σ46
          refine zr_iadd (pc := 68) hV dX12_keepPast_68 ?_
          refine zr_putI (pc := 69) hV 26 dX12_keepPast_69 fX12_341 rfl rfl rfl rfl (by decide) (fun σ69 eσ69 => ?_)
          have hσ69 : zx_T σ69 := zx_u26 eσ69 hσ46 (by omega)
          have hFσ69 : ∀ a i : Int, (¬ (a = 0 ∧ i = 26) ∧ ¬ (a = 0 ∧ i = 27) ∧ a ≠ 16) → σ69 a i = σ a i := fun a i h => by rw [eσ69, zq_up_ne h.1]; exact hFσ46 a i h
          have t9 := zx_g26 hσ69
          have t10 : σ69 0 26 = (σ46 0 26) + 0 := by rw [eσ69]; exact zq_up_same _ _ _ _
          have t11 := zx_g27 hσ69
          have t12 : σ69 0 27 = σ46 0 27 := by rw [eσ69]; exact zq_up_ne (by omega)
          have t13 : σ46 0 27 = zq_rem ((σ_2 0 27) + 1) 100 := by rw [eσ46]; exact zq_up_same _ _ _ _
          exact zr_vret (pc := 72) hV dX12_keepPast_72 rfl rfl ⟨rfl, hσ69, hFσ69, (by omega), (show ∀ j, σ69 16 j = if 336 * σ 0 27 ≤ j ∧ j < 336 * σ 0 27 + 336 then σ 15 (j - 336 * σ 0 27) else σ 16 j from (fun j => by rw [eσ69, zq_up_ne (by omega), eσ46, zq_up_ne (by omega), hi2_0 j, show x1_2 = 336 by omega]))⟩
        · show V 63 [some (ZR 0), some (ZI x1_2)] [ZI (σ46 0 26), ZR 0] 41 σ46
          refine zr_iconst (pc := 63) hV 1 dX12_keepPast_63 rfl ?_
          refine zr_goto (pc := 64) hV 68 dX12_keepPast_64 (by decide) ?_
          show V 68 [some (ZR 0), some (ZI x1_2)] [ZI 1, ZI (σ46 0 26), ZR 0] 41 σ46
          refine zr_iadd (pc := 68) hV dX12_keepPast_68 ?_
          refine zr_putI (pc := 69) hV 26 dX12_keepPast_69 fX12_341 rfl rfl rfl rfl (by decide) (fun σ69 eσ69 => ?_)
          have hσ69 : zx_T σ69 := zx_u26 eσ69 hσ46 (by omega)
          have hFσ69 : ∀ a i : Int, (¬ (a = 0 ∧ i = 26) ∧ ¬ (a = 0 ∧ i = 27) ∧ a ≠ 16) → σ69 a i = σ a i := fun a i h => by rw [eσ69, zq_up_ne h.1]; exact hFσ46 a i h
          have t14 := zx_g26 hσ69
          have t15 : σ69 0 26 = (σ46 0 26) + 1 := by rw [eσ69]; exact zq_up_same _ _ _ _
          have t16 := zx_g27 hσ69
          have t17 : σ69 0 27 = σ46 0 27 := by rw [eσ69]; exact zq_up_ne (by omega)
          have t18 : σ46 0 27 = zq_rem ((σ_2 0 27) + 1) 100 := by rw [eσ46]; exact zq_up_same _ _ _ _
          exact zr_vret (pc := 72) hV dX12_keepPast_72 rfl rfl ⟨rfl, hσ69, hFσ69, (by omega), (show ∀ j, σ69 16 j = if 336 * σ 0 27 ≤ j ∧ j < 336 * σ 0 27 + 336 then σ 15 (j - 336 * σ 0 27) else σ 16 j from (fun j => by rw [eσ69, zq_up_ne (by omega), eσ46, zq_up_ne (by omega), hi2_0 j, show x1_2 = 336 by omega]))⟩
      · show V 9 [some (ZR 0), some (ZI x1_2)] [] 41 σ_2
        refine zr_aload_n (pc := 9) hV dX12_keepPast_9 rfl rfl ?_
        refine zr_getR (pc := 10) hV 25 16 dX12_keepPast_10 fX12_66 rfl rfl rfl (by decide) (zx_g25 hσ_2) (by omega) ?_
        refine zr_sipush (pc := 13) hV 336 dX12_keepPast_13 (by decide) ?_
        refine zr_aload_n (pc := 16) hV dX12_keepPast_16 rfl rfl ?_
        refine zr_getI (pc := 17) hV 27 dX12_keepPast_17 fX12_365 rfl rfl rfl (by decide) ?_
        have t19 := zx_g27 hσ_2
        refine zr_imul (pc := 20) hV dX12_keepPast_20 ?_
        refine zr_iload_n (pc := 21) hV dX12_keepPast_21 rfl rfl ?_
        refine zr_iadd (pc := 22) hV dX12_keepPast_22 ?_
        refine zr_aload_n (pc := 23) hV dX12_keepPast_23 rfl rfl ?_
        refine zr_getR (pc := 24) hV 24 15 dX12_keepPast_24 fX12_62 rfl rfl rfl (by decide) (zx_g24 hσ_2) (by omega) ?_
        refine zr_iload_n (pc := 27) hV dX12_keepPast_27 rfl rfl ?_
        refine zr_iald (pc := 28) hV dX12_keepPast_28 rfl (by decide) rfl (by omega) ?_
        have t20 := zx_ga15 hσ_2 x1_2
        have t21 : σ_2 15 x1_2 = σ 15 x1_2 := hFσ_2 _ _ (by omega)
        refine zr_iast (pc := 29) hV dX12_keepPast_29 rfl (by decide) rfl (by omega) (fun σ29 eσ29 => ?_)
        have hσ29 : zx_T σ29 := zx_ua16 eσ29 hσ_2 (by omega)
        have hFσ29 : ∀ a i : Int, (¬ (a = 0 ∧ i = 26) ∧ ¬ (a = 0 ∧ i = 27) ∧ a ≠ 16) → σ29 a i = σ a i := fun a i h => by rw [eσ29, zq_up_ne (fun q => h.2.2 q.1)]; exact hFσ_2 a i h
        refine zr_iinc (pc := 30) hV [some (ZR 0), some (ZI (x1_2 + 1))] (x1_2 + 1) dX12_keepPast_30 rfl rfl (by decide) rfl rfl ?_
        refine zr_goto (pc := 33) hV 2 dX12_keepPast_33 (by decide) ?_
        have t22 := zx_g27 hσ29
        have t23 : σ29 0 27 = σ_2 0 27 := by rw [eσ29]; exact zq_up_ne (by omega)
        have t24 := zx_g26 hσ29
        have t25 : σ29 0 26 = σ_2 0 26 := by rw [eσ29]; exact zq_up_ne (by omega)
        exact ih2 (x1_2 + 1) σ29 (by omega) hσ29 hFσ29 (fun j => if hc : j = 336 * σ 0 27 + x1_2 then (by rw [hc, eσ29, show 336 * σ_2 0 27 + x1_2 = 336 * σ 0 27 + x1_2 by omega, zq_up_same, if_pos (by omega), show 336 * σ 0 27 + x1_2 - 336 * σ 0 27 = x1_2 by omega]; omega) else (by rw [eσ29, zq_up_ne (by omega), hi2_0 j]; exact if hd : 336 * σ 0 27 ≤ j ∧ j < 336 * σ 0 27 + x1_2 then (by rw [if_pos hd, if_pos (by omega)]) else (by rw [if_neg hd, if_neg (by omega)]))) (by omega) (by omega) (by omega) (by omega)
  have t26 := zx_g27 hσ
  have t27 := zx_g26 hσ
  exact L2 (336 - (0 : Int) + 1 : Int).toNat 0 σ (by omega) hσ (fun a i _ => rfl) (fun j => by rw [if_neg (by omega)]) (by omega) (by omega) (by omega) (by omega)
set_option maxHeartbeats 800000 in
theorem c_X12_doStep3 {σ : zq_S} (hσ : zx_T σ) (keeps : Int) (q0 : 0 ≤ keeps ∧ keeps ≤ 1) (q1 : zq_hid (zs_la σ)) (q2 : zq_hid (zs_gg σ)) (Mσ : zx_M σ) (Oσ : zx_O σ) (Kσ : zx_K σ) (Wσ : zx_W σ) : zq_C zx_w yX12_doStep cX12_doStep 7 (some .boolean) 4 101 41 41 [ZR 0, ZI keeps] σ (zq_pi (fun r τ => zx_T τ ∧ (∀ a i : Int, (¬ (a = 0 ∧ i = 26) ∧ ¬ (a = 0 ∧ i = 27) ∧ ¬ (a = 0 ∧ i = 30) ∧ a ≠ 15 ∧ a ≠ 16 ∧ a ≠ 18) → τ a i = σ a i) ∧ ((r = 0 ∨ r = 1)) ∧ zq_hid ((r = 0 → zs_rno σ ∧ ∀ a i, a ≠ 18 → ¬ (a = 0 ∧ i = 30) → τ a i = σ a i) ∧ (r = 1 → zs_rd keeps σ τ)) ∧ zx_M τ ∧ zx_O τ ∧ zx_K τ ∧ zx_W τ)) := by
  refine zq_C_of (by decide) (Nat.le_refl _) (Nat.le_of_ble_eq_true rfl) [some (ZR 0), some (ZI keeps), none, none, none, none, none] rfl (fun V hV => ?_)
  show V 0 [some (ZR 0), some (ZI keeps), none, none, none, none, none] [] 41 σ
  refine zr_aload_n (pc := 0) hV dX12_doStep_0 rfl rfl ?_
  refine zr_getR (pc := 1) hV 24 15 dX12_doStep_1 fX12_62 rfl rfl rfl (by decide) (zx_g24 hσ) (by omega) ?_
  refine zr_sipush (pc := 4) hV 265 dX12_doStep_4 (by decide) ?_
  refine zr_iald (pc := 7) hV dX12_doStep_7 rfl (by decide) rfl (by omega) ?_
  have t1 := zx_stP hσ
  refine zr_istore_n (pc := 8) hV [some (ZR 0), some (ZI keeps), some (ZI (σ 15 265)), none, none, none, none] dX12_doStep_8 rfl (by decide) rfl rfl ?_
  refine zr_aload_n (pc := 9) hV dX12_doStep_9 rfl rfl ?_
  refine zr_getR (pc := 10) hV 23 14 dX12_doStep_10 fX12_59 rfl rfl rfl (by decide) (zx_g23 hσ) (by omega) ?_
  refine zr_iload_n (pc := 13) hV dX12_doStep_13 rfl rfl ?_
  refine zr_iald (pc := 14) hV dX12_doStep_14 rfl (by decide) rfl (by omega) ?_
  have t2 := zx_ga14 hσ (σ 15 265)
  refine zr_istore_n (pc := 15) hV [some (ZR 0), some (ZI keeps), some (ZI (σ 15 265)), some (ZI (σ 14 (σ 15 265))), none, none, none] dX12_doStep_15 rfl (by decide) rfl rfl ?_
  refine zr_aload_n (pc := 16) hV dX12_doStep_16 rfl rfl ?_
  refine zr_iload_n (pc := 17) hV dX12_doStep_17 rfl rfl ?_
  refine zr_callVi (pc := 18) hV [ZI (σ 14 (σ 15 265))] (st := []) (c_X12_ownerOf2 (σ := σ) hσ (σ 14 (σ 15 265)) (by omega) Mσ Wσ) dX12_doStep_18 mX12_283 rfl (by decide) (by decide) (Nat.le_of_ble_eq_true rfl) (Nat.le_refl _) (fun r18 σ18 hr18 pσ18 => ?_)
  obtain ⟨hσ18, hfσ18, pσ18⟩ := pσ18
  have Mσ18 : zx_M σ18 := pσ18.2.2.2.2.2.1
  have Oσ18 : zx_O σ18 := zx_O_fr (fun i => hfσ18 2 i (by omega)) (fun i => hfσ18 5 i (by omega)) (fun i => hfσ18 6 i (by omega)) (hfσ18 0 2 (by omega)) (hfσ18 0 3 (by omega)) Oσ
  have Kσ18 : zx_K σ18 := zx_K_fr (fun i => hfσ18 14 i (by omega)) (hfσ18 0 2 (by omega)) Kσ
  have Wσ18 : zx_W σ18 := pσ18.2.2.2.2.2.2
  have hFσ18 : ∀ a i : Int, (¬ (a = 0 ∧ i = 26) ∧ ¬ (a = 0 ∧ i = 27) ∧ ¬ (a = 0 ∧ i = 30) ∧ a ≠ 15 ∧ a ≠ 16 ∧ a ≠ 18) → σ18 a i = σ a i := fun a i h => (hfσ18 a i ⟨h.2.2.1, h.2.2.2.2.2⟩)
  have t3 := zx_g30 hσ
  have t4 := zx_g30 hσ18
  have zk := Kσ (σ 15 265) (by omega) (by omega)
  have z2 := hfσ18 0 2 (by omega)
  have z3 := hfσ18 0 3 (by omega)
  have zo : σ18 18 (σ 14 (σ 15 265)) < σ18 0 3 := Mσ18 pσ18.2.2.2.1 (σ 14 (σ 15 265)) (by omega) (by rw [z2]; exact zk)
  have z33 := zx_g3 hσ
  have zow : zt_ow σ (σ 14 (σ 15 265)) r18 := by have q := Wσ18 pσ18.2.2.2.1 (σ 14 (σ 15 265)) (by omega) (by rw [hfσ18 0 2 (by omega)]; omega); rw [← pσ18.2.2.1] at q; exact zt_ow_fr (fun i => (hFσ18 2 i (by omega)).symm) (hFσ18 0 3 (by omega)).symm (hFσ18 0 2 (by omega)).symm q
  have okp := zx_stP hσ
  refine zr_istore (pc := 21) hV [some (ZR 0), some (ZI keeps), some (ZI (σ 15 265)), some (ZI (σ 14 (σ 15 265))), some (ZI r18), none, none] dX12_doStep_21 (by decide) rfl rfl ?_
  refine zr_iload (pc := 23) hV dX12_doStep_23 rfl ?_
  refine zr_if_ge (pc := 25) hV 30 dX12_doStep_25 (by decide) (by omega) (fun c5 => ?_) (fun c5 => ?_)
  · show V 30 [some (ZR 0), some (ZI keeps), some (ZI (σ 15 265)), some (ZI (σ 14 (σ 15 265))), some (ZI r18), none, none] [] 41 σ18
    refine zr_iload_n (pc := 30) hV dX12_doStep_30 rfl rfl ?_
    have J38 : ∀ (σ_38 : zq_S), (zx_T σ_38) → (∀ a i : Int, (¬ (a = 0 ∧ i = 26) ∧ ¬ (a = 0 ∧ i = 27) ∧ ¬ (a = 0 ∧ i = 30) ∧ a ≠ 15 ∧ a ≠ 16 ∧ a ≠ 18) → σ_38 a i = σ a i) → (zx_M σ_38) → (zx_O σ_38) → (zx_K σ_38) → (zx_W σ_38) → (zq_hid (∀ i, σ_38 15 i = σ 15 i)) → (zq_hid ((keeps = 1 → zs_kp σ σ_38) ∧ (keeps = 0 → (∀ j, σ_38 16 j = σ 16 j) ∧ σ_38 0 26 = σ 0 26 ∧ σ_38 0 27 = σ 0 27))) → V 38 [some (ZR 0), none, some (ZI (σ 15 265)), some (ZI (σ 14 (σ 15 265))), some (ZI r18), none, none] [] 41 σ_38 := by
      intro σ_38 hσ_38 hFσ_38 Mσ_38 Oσ_38 Kσ_38 Wσ_38 hi38_0 hi38_1
      show V 38 [some (ZR 0), none, some (ZI (σ 15 265)), some (ZI (σ 14 (σ 15 265))), some (ZI r18), none, none] [] 41 σ_38
      have s270 := hi38_0 270
      have s271 := hi38_0 271
      have s265 := hi38_0 265
      have eF : zu_rf σ_38 r18 (σ 14 (σ 15 265)) = zu_rf σ r18 (σ 14 (σ 15 265)) := funext (fun f => zu_rf_fr (fun i => hFσ_38 2 i (by omega)) (hFσ_38 0 2 (by omega)))
      have e6 : σ_38 6 = σ 6 := funext (fun i => hFσ_38 6 i (by omega))
      have e3o : σ_38 3 r18 = σ 3 r18 := hFσ_38 3 r18 (by omega)
      have e4o : σ_38 4 r18 = σ 4 r18 := hFσ_38 4 r18 (by omega)
      have e5o : σ_38 5 r18 = σ 5 r18 := hFσ_38 5 r18 (by omega)
      have e7o : σ_38 7 r18 = σ 7 r18 := hFσ_38 7 r18 (by omega)
      have e00 : σ_38 0 0 = σ 0 0 := hFσ_38 0 0 (by omega)
      refine zr_aload_n (pc := 38) hV dX12_doStep_38 rfl rfl ?_
      refine zr_getR (pc := 39) hV 24 15 dX12_doStep_39 fX12_62 rfl rfl rfl (by decide) (zx_g24 hσ_38) (by omega) ?_
      refine zr_sipush (pc := 42) hV 270 dX12_doStep_42 (by decide) ?_
      refine zr_iald (pc := 45) hV dX12_doStep_45 rfl (by decide) rfl (by omega) ?_
      have t6 := zx_st hσ_38 270
      have J80 : ∀ (v0_80 : Int), (0 ≤ v0_80 ∧ v0_80 ≤ 2147483647) → (zq_hid (zs_wr (σ 15 270) (σ 15 271) (zw_us (zu_rf σ r18 (σ 14 (σ 15 265))) (σ 6) (18 * r18) (σ 5 r18) (σ 3 r18) (σ 4 r18)) v0_80)) → V 80 [some (ZR 0), none, some (ZI (σ 15 265)), some (ZI (σ 14 (σ 15 265))), some (ZI r18), none, none] [ZI v0_80] 41 σ_38 := by
        intro v0_80 hv0_80 hi80_0
        show V 80 [some (ZR 0), none, some (ZI (σ 15 265)), some (ZI (σ 14 (σ 15 265))), some (ZI r18), none, none] [ZI v0_80] 41 σ_38
        refine zr_istore (pc := 80) hV [some (ZR 0), none, some (ZI (σ 15 265)), some (ZI (σ 14 (σ 15 265))), some (ZI r18), some (ZI v0_80), none] dX12_doStep_80 (by decide) rfl rfl ?_
        refine zr_aload_n (pc := 82) hV dX12_doStep_82 rfl rfl ?_
        refine zr_getR (pc := 83) hV 24 15 dX12_doStep_83 fX12_62 rfl rfl rfl (by decide) (zx_g24 hσ_38) (by omega) ?_
        refine zr_sipush (pc := 86) hV 270 dX12_doStep_86 (by decide) ?_
        refine zr_aload_n (pc := 89) hV dX12_doStep_89 rfl rfl ?_
        refine zr_getR (pc := 90) hV 10 7 dX12_doStep_90 fX12_38 rfl rfl rfl (by decide) (zx_g10 hσ_38) (by omega) ?_
        refine zr_iload (pc := 93) hV dX12_doStep_93 rfl ?_
        refine zr_iald (pc := 95) hV dX12_doStep_95 rfl (by decide) rfl (by omega) ?_
        have t7 := zx_ga7 hσ_38 r18
        have t8 : σ_38 7 r18 = σ 7 r18 := hFσ_38 _ _ (by omega)
        refine zr_iconst (pc := 96) hV 1 dX12_doStep_96 rfl ?_
        refine zr_isub (pc := 97) hV dX12_doStep_97 ?_
        refine zr_iast (pc := 98) hV dX12_doStep_98 rfl (by decide) rfl (by omega) (fun σ98 eσ98 => ?_)
        have hσ98 : zx_T σ98 := zx_ua15 eσ98 hσ_38 (by omega)
        have hFσ98 : ∀ a i : Int, (¬ (a = 0 ∧ i = 26) ∧ ¬ (a = 0 ∧ i = 27) ∧ ¬ (a = 0 ∧ i = 30) ∧ a ≠ 15 ∧ a ≠ 16 ∧ a ≠ 18) → σ98 a i = σ a i := fun a i h => by rw [eσ98, zq_up_ne (fun q => h.2.2.2.1 q.1)]; exact hFσ_38 a i h
        have Mσ98 : zx_M σ98 := zx_M_fr (fun i => by rw [eσ98]; exact zq_up_ne (by omega)) (by rw [eσ98]; exact zq_up_ne (by omega)) (by rw [eσ98]; exact zq_up_ne (by omega)) (by rw [eσ98]; exact zq_up_ne (by omega)) Mσ_38
        have Oσ98 : zx_O σ98 := zx_O_fr (fun i => by rw [eσ98]; exact zq_up_ne (by omega)) (fun i => by rw [eσ98]; exact zq_up_ne (by omega)) (fun i => by rw [eσ98]; exact zq_up_ne (by omega)) (by rw [eσ98]; exact zq_up_ne (by omega)) (by rw [eσ98]; exact zq_up_ne (by omega)) Oσ_38
        have Kσ98 : zx_K σ98 := zx_K_fr (fun i => by rw [eσ98]; exact zq_up_ne (by omega)) (by rw [eσ98]; exact zq_up_ne (by omega)) Kσ_38
        have Wσ98 : zx_W σ98 := zx_W_fr (fun i => by rw [eσ98]; exact zq_up_ne (by omega)) (by rw [eσ98]; exact zq_up_ne (by omega)) (by rw [eσ98]; exact zq_up_ne (by omega)) (by rw [eσ98]; exact zq_up_ne (by omega)) (fun i => by rw [eσ98]; exact zq_up_ne (by omega)) Wσ_38
        refine zr_aload_n (pc := 99) hV dX12_doStep_99 rfl rfl ?_
        refine zr_getR (pc := 100) hV 24 15 dX12_doStep_100 fX12_62 rfl rfl rfl (by decide) (zx_g24 hσ98) (by omega) ?_
        refine zr_sipush (pc := 103) hV 271 dX12_doStep_103 (by decide) ?_
        refine zr_aload_n (pc := 106) hV dX12_doStep_106 rfl rfl ?_
        refine zr_iload (pc := 107) hV dX12_doStep_107 rfl ?_
        refine zr_iload_n (pc := 109) hV dX12_doStep_109 rfl rfl ?_
        refine zr_callVp (pc := 110) hV [ZI r18, ZI (σ 14 (σ 15 265))] (st := [ZI 271, ZR 15]) (c_X12_targetsOf2 (σ := σ98) hσ98 r18 (σ 14 (σ 15 265)) (by omega) (by omega) (zx_B_fr (fun i => hFσ98 2 i (by omega)) (hFσ98 0 2 (by omega)) (Oσ r18 (by omega) (by omega)).2)) dX12_doStep_110 mX12_374 rfl (by decide) (by decide) (Nat.le_of_ble_eq_true rfl) (Nat.le_refl _) (fun r110 hr110 pr110 => ?_)
        refine zr_iast (pc := 113) hV dX12_doStep_113 rfl (by decide) rfl (by omega) (fun σ113 eσ113 => ?_)
        have hσ113 : zx_T σ113 := zx_ua15 eσ113 hσ98 (by omega)
        have hFσ113 : ∀ a i : Int, (¬ (a = 0 ∧ i = 26) ∧ ¬ (a = 0 ∧ i = 27) ∧ ¬ (a = 0 ∧ i = 30) ∧ a ≠ 15 ∧ a ≠ 16 ∧ a ≠ 18) → σ113 a i = σ a i := fun a i h => by rw [eσ113, zq_up_ne (fun q => h.2.2.2.1 q.1)]; exact hFσ98 a i h
        have Mσ113 : zx_M σ113 := zx_M_fr (fun i => by rw [eσ113]; exact zq_up_ne (by omega)) (by rw [eσ113]; exact zq_up_ne (by omega)) (by rw [eσ113]; exact zq_up_ne (by omega)) (by rw [eσ113]; exact zq_up_ne (by omega)) Mσ98
        have Oσ113 : zx_O σ113 := zx_O_fr (fun i => by rw [eσ113]; exact zq_up_ne (by omega)) (fun i => by rw [eσ113]; exact zq_up_ne (by omega)) (fun i => by rw [eσ113]; exact zq_up_ne (by omega)) (by rw [eσ113]; exact zq_up_ne (by omega)) (by rw [eσ113]; exact zq_up_ne (by omega)) Oσ98
        have Kσ113 : zx_K σ113 := zx_K_fr (fun i => by rw [eσ113]; exact zq_up_ne (by omega)) (by rw [eσ113]; exact zq_up_ne (by omega)) Kσ98
        have Wσ113 : zx_W σ113 := zx_W_fr (fun i => by rw [eσ113]; exact zq_up_ne (by omega)) (by rw [eσ113]; exact zq_up_ne (by omega)) (by rw [eσ113]; exact zq_up_ne (by omega)) (by rw [eσ113]; exact zq_up_ne (by omega)) (fun i => by rw [eσ113]; exact zq_up_ne (by omega)) Wσ98
        refine zr_aload_n (pc := 114) hV dX12_doStep_114 rfl rfl ?_
        refine zr_getR (pc := 115) hV 24 15 dX12_doStep_115 fX12_62 rfl rfl rfl (by decide) (zx_g24 hσ113) (by omega) ?_
        refine zr_sipush (pc := 118) hV 265 dX12_doStep_118 (by decide) ?_
        refine zr_iload_n (pc := 121) hV dX12_doStep_121 rfl rfl ?_
        refine zr_iconst (pc := 122) hV 1 dX12_doStep_122 rfl ?_
        refine zr_iadd (pc := 123) hV dX12_doStep_123 ?_
        refine zr_bipush (pc := 124) hV 64 dX12_doStep_124 (by decide) ?_
        refine zr_irem (pc := 126) hV dX12_doStep_126 ⟨by decide, by decide⟩ (by omega) ?_
        have t9 := zq_rem_c (x := (σ 15 265) + 1) 64 (by decide) (by omega)
        refine zr_iast (pc := 127) hV dX12_doStep_127 rfl (by decide) rfl (by omega) (fun σ127 eσ127 => ?_)
        have hσ127 : zx_T σ127 := zx_ua15 eσ127 hσ113 (by omega)
        have hFσ127 : ∀ a i : Int, (¬ (a = 0 ∧ i = 26) ∧ ¬ (a = 0 ∧ i = 27) ∧ ¬ (a = 0 ∧ i = 30) ∧ a ≠ 15 ∧ a ≠ 16 ∧ a ≠ 18) → σ127 a i = σ a i := fun a i h => by rw [eσ127, zq_up_ne (fun q => h.2.2.2.1 q.1)]; exact hFσ113 a i h
        have Mσ127 : zx_M σ127 := zx_M_fr (fun i => by rw [eσ127]; exact zq_up_ne (by omega)) (by rw [eσ127]; exact zq_up_ne (by omega)) (by rw [eσ127]; exact zq_up_ne (by omega)) (by rw [eσ127]; exact zq_up_ne (by omega)) Mσ113
        have Oσ127 : zx_O σ127 := zx_O_fr (fun i => by rw [eσ127]; exact zq_up_ne (by omega)) (fun i => by rw [eσ127]; exact zq_up_ne (by omega)) (fun i => by rw [eσ127]; exact zq_up_ne (by omega)) (by rw [eσ127]; exact zq_up_ne (by omega)) (by rw [eσ127]; exact zq_up_ne (by omega)) Oσ113
        have Kσ127 : zx_K σ127 := zx_K_fr (fun i => by rw [eσ127]; exact zq_up_ne (by omega)) (by rw [eσ127]; exact zq_up_ne (by omega)) Kσ113
        have Wσ127 : zx_W σ127 := zx_W_fr (fun i => by rw [eσ127]; exact zq_up_ne (by omega)) (by rw [eσ127]; exact zq_up_ne (by omega)) (by rw [eσ127]; exact zq_up_ne (by omega)) (by rw [eσ127]; exact zq_up_ne (by omega)) (fun i => by rw [eσ127]; exact zq_up_ne (by omega)) Wσ113
        refine zr_aload_n (pc := 128) hV dX12_doStep_128 rfl rfl ?_
        refine zr_iload (pc := 129) hV dX12_doStep_129 rfl ?_
        refine zr_iload_n (pc := 131) hV dX12_doStep_131 rfl rfl ?_
        refine zr_callVv (pc := 132) hV [ZI r18, ZI (σ 14 (σ 15 265))] (st := []) (c_X12_doOrder3 (σ := σ127) hσ127 r18 (σ 14 (σ 15 265)) (by omega) (by omega) (zx_A_fr (fun i => hFσ127 5 i (by omega)) (fun i => hFσ127 6 i (by omega)) (Oσ r18 (by omega) (by omega)).1) (zx_B_fr (fun i => hFσ127 2 i (by omega)) (hFσ127 0 2 (by omega)) (Oσ r18 (by omega) (by omega)).2)) dX12_doStep_132 mX12_377 rfl (by decide) (by decide) (Nat.le_of_ble_eq_true rfl) (Nat.le_refl _) (fun σ132 pσ132 => ?_)
        obtain ⟨hσ132, hfσ132, pσ132, wσ132⟩ := pσ132
        have Mσ132 : zx_M σ132 := zx_M_fr (fun i => hfσ132 18 i (by omega)) (hfσ132 0 30 (by omega)) (hfσ132 0 2 (by omega)) (hfσ132 0 3 (by omega)) Mσ127
        have Oσ132 : zx_O σ132 := zx_O_fr (fun i => hfσ132 2 i (by omega)) (fun i => hfσ132 5 i (by omega)) (fun i => hfσ132 6 i (by omega)) (hfσ132 0 2 (by omega)) (hfσ132 0 3 (by omega)) Oσ127
        have Kσ132 : zx_K σ132 := zx_K_fr (fun i => hfσ132 14 i (by omega)) (hfσ132 0 2 (by omega)) Kσ127
        have Wσ132 : zx_W σ132 := zx_W_fr (fun i => hfσ132 18 i (by omega)) (hfσ132 0 30 (by omega)) (hfσ132 0 2 (by omega)) (hfσ132 0 3 (by omega)) (fun i => hfσ132 2 i (by omega)) Wσ127
        have hFσ132 : ∀ a i : Int, (¬ (a = 0 ∧ i = 26) ∧ ¬ (a = 0 ∧ i = 27) ∧ ¬ (a = 0 ∧ i = 30) ∧ a ≠ 15 ∧ a ≠ 16 ∧ a ≠ 18) → σ132 a i = σ a i := fun a i h => (hfσ132 a i (fun q => h.2.2.2.1 q.1)).trans (hFσ127 a i h)
        have t10 := zx_g0 hσ127
        have t11 : σ127 0 0 = σ113 0 0 := by rw [eσ127]; exact zq_up_ne (by omega)
        have t12 : σ113 0 0 = σ98 0 0 := by rw [eσ113]; exact zq_up_ne (by omega)
        have t13 : σ98 0 0 = σ_38 0 0 := by rw [eσ98]; exact zq_up_ne (by omega)
        have t14 : σ_38 0 0 = σ 0 0 := hFσ_38 _ _ (by omega)
        have c15 : σ127 15 = zw_up (zw_up (zw_up (σ 15) 270 (σ 7 r18 - 1)) 271 r110) 265 ((σ 15 265 + 1) % 64) := by have z := zs_up3 (σ := σ) eσ98 eσ113 eσ127 hi38_0; rw [e7o] at z; rw [z, show zq_rem (σ 15 265 + 1) 64 = (σ 15 265 + 1) % 64 by omega]
        have ta : 0 ≤ r110 ∧ r110 ≤ 1023 ∧ ∀ i : Nat, zw_tb r110 i ↔ zw_ts (zu_rf σ r18 (σ 14 (σ 15 265))) (σ 6) (18 * r18) (σ 5 r18) i := ⟨by omega, by omega, fun i => by have z := pr110.2.2 i; rw [show zu_rf σ98 r18 (σ 14 (σ 15 265)) = zu_rf σ r18 (σ 14 (σ 15 265)) from funext (fun f => zu_rf_fr (fun i => hFσ98 2 i (by omega)) (hFσ98 0 2 (by omega))), show σ98 6 = σ 6 from funext (fun i => hFσ98 6 i (by omega)), hFσ98 5 r18 (by omega)] at z; exact z⟩
        have dd : ∀ i, σ132 15 i = zw_do (zu_rf σ r18 (σ 14 (σ 15 265))) (zx_p2 (σ 0 0) - 1) (σ 6) r18 (σ 3 r18) (σ 4 r18) (σ 5 r18) (σ127 15) i := fun i => by have z := wσ132 i; rw [show zu_rf σ127 r18 (σ 14 (σ 15 265)) = zu_rf σ r18 (σ 14 (σ 15 265)) from funext (fun f => zu_rf_fr (fun i => hFσ127 2 i (by omega)) (hFσ127 0 2 (by omega))), show σ127 6 = σ 6 from funext (fun i => hFσ127 6 i (by omega)), hFσ127 5 r18 (by omega), hFσ127 3 r18 (by omega), hFσ127 4 r18 (by omega), hFσ127 0 0 (by omega)] at z; exact z
        refine zr_aload_n (pc := 135) hV dX12_doStep_135 rfl rfl ?_
        refine zr_getR (pc := 136) hV 24 15 dX12_doStep_136 fX12_62 rfl rfl rfl (by decide) (zx_g24 hσ132) (by omega) ?_
        refine zr_sipush (pc := 139) hV 272 dX12_doStep_139 (by decide) ?_
        refine zr_iload_n (pc := 142) hV dX12_doStep_142 rfl rfl ?_
        refine zr_iadd (pc := 143) hV dX12_doStep_143 ?_
        refine zr_iald (pc := 144) hV dX12_doStep_144 rfl (by decide) rfl (by omega) ?_
        have t15 := zx_st hσ132 (272 + (σ 15 265))
        refine zr_aload_n (pc := 145) hV dX12_doStep_145 rfl rfl ?_
        refine zr_getR (pc := 146) hV 24 15 dX12_doStep_146 fX12_62 rfl rfl rfl (by decide) (zx_g24 hσ132) (by omega) ?_
        refine zr_sipush (pc := 149) hV 265 dX12_doStep_149 (by decide) ?_
        refine zr_iald (pc := 152) hV dX12_doStep_152 rfl (by decide) rfl (by omega) ?_
        have t16 := zx_stP hσ132
        refine zr_icmp_eq (pc := 153) hV 160 dX12_doStep_153 (by decide) (by omega) (by omega) (fun c17 => ?_) (fun c17 => ?_)
        · show V 160 [some (ZR 0), none, some (ZI (σ 15 265)), some (ZI (σ 14 (σ 15 265))), some (ZI r18), some (ZI v0_80), none] [] 41 σ132
          refine zr_iconst (pc := 160) hV 0 dX12_doStep_160 rfl ?_
          show V 161 [some (ZR 0), none, some (ZI (σ 15 265)), some (ZI (σ 14 (σ 15 265))), some (ZI r18), some (ZI v0_80), none] [ZI 0] 41 σ132
          refine zr_istore (pc := 161) hV [some (ZR 0), none, some (ZI (σ 15 265)), some (ZI (σ 14 (σ 15 265))), some (ZI r18), some (ZI v0_80), some (ZI 0)] dX12_doStep_161 (by decide) rfl rfl ?_
          refine zr_aload_n (pc := 163) hV dX12_doStep_163 rfl rfl ?_
          refine zr_getR (pc := 164) hV 24 15 dX12_doStep_164 fX12_62 rfl rfl rfl (by decide) (zx_g24 hσ132) (by omega) ?_
          refine zr_sipush (pc := 167) hV 272 dX12_doStep_167 (by decide) ?_
          refine zr_iload_n (pc := 170) hV dX12_doStep_170 rfl rfl ?_
          refine zr_iadd (pc := 171) hV dX12_doStep_171 ?_
          refine zr_aload_n (pc := 172) hV dX12_doStep_172 rfl rfl ?_
          refine zr_getR (pc := 173) hV 24 15 dX12_doStep_173 fX12_62 rfl rfl rfl (by decide) (zx_g24 hσ132) (by omega) ?_
          refine zr_sipush (pc := 176) hV 265 dX12_doStep_176 (by decide) ?_
          refine zr_iald (pc := 179) hV dX12_doStep_179 rfl (by decide) rfl (by omega) ?_
          have t18 := zx_stP hσ132
          refine zr_iast (pc := 180) hV dX12_doStep_180 rfl (by decide) rfl (by omega) (fun σ180 eσ180 => ?_)
          have hσ180 : zx_T σ180 := zx_ua15 eσ180 hσ132 (by omega)
          have hFσ180 : ∀ a i : Int, (¬ (a = 0 ∧ i = 26) ∧ ¬ (a = 0 ∧ i = 27) ∧ ¬ (a = 0 ∧ i = 30) ∧ a ≠ 15 ∧ a ≠ 16 ∧ a ≠ 18) → σ180 a i = σ a i := fun a i h => by rw [eσ180, zq_up_ne (fun q => h.2.2.2.1 q.1)]; exact hFσ132 a i h
          have Mσ180 : zx_M σ180 := zx_M_fr (fun i => by rw [eσ180]; exact zq_up_ne (by omega)) (by rw [eσ180]; exact zq_up_ne (by omega)) (by rw [eσ180]; exact zq_up_ne (by omega)) (by rw [eσ180]; exact zq_up_ne (by omega)) Mσ132
          have Oσ180 : zx_O σ180 := zx_O_fr (fun i => by rw [eσ180]; exact zq_up_ne (by omega)) (fun i => by rw [eσ180]; exact zq_up_ne (by omega)) (fun i => by rw [eσ180]; exact zq_up_ne (by omega)) (by rw [eσ180]; exact zq_up_ne (by omega)) (by rw [eσ180]; exact zq_up_ne (by omega)) Oσ132
          have Kσ180 : zx_K σ180 := zx_K_fr (fun i => by rw [eσ180]; exact zq_up_ne (by omega)) (by rw [eσ180]; exact zq_up_ne (by omega)) Kσ132
          have Wσ180 : zx_W σ180 := zx_W_fr (fun i => by rw [eσ180]; exact zq_up_ne (by omega)) (by rw [eσ180]; exact zq_up_ne (by omega)) (by rw [eσ180]; exact zq_up_ne (by omega)) (by rw [eσ180]; exact zq_up_ne (by omega)) (fun i => by rw [eσ180]; exact zq_up_ne (by omega)) Wσ132
          refine zr_aload_n (pc := 181) hV dX12_doStep_181 rfl rfl ?_
          refine zr_getR (pc := 182) hV 24 15 dX12_doStep_182 fX12_62 rfl rfl rfl (by decide) (zx_g24 hσ180) (by omega) ?_
          refine zr_sipush (pc := 185) hV 266 dX12_doStep_185 (by decide) ?_
          refine zr_dup2 (pc := 188) hV dX12_doStep_188 (fun _ => rfl) (fun _ => rfl) ?_
          refine zr_iald (pc := 189) hV dX12_doStep_189 rfl (by decide) rfl (by omega) ?_
          have t19 := zx_st hσ180 266
          have t20 : σ180 15 266 = σ132 15 266 := by rw [eσ180]; exact zq_up_ne (by omega)
          refine zr_iconst (pc := 190) hV 1 dX12_doStep_190 rfl ?_
          refine zr_iadd (pc := 191) hV dX12_doStep_191 ?_
          refine zr_any (pc := 192) hV (fun y192 hy192 jy192 => ?_)
          have wy192 : y192 = zs_w ((σ180 15 266) + 1) := zs_w_any hy192 jy192
          clear jy192
          refine zr_iast (pc := 192) hV dX12_doStep_192 rfl (by decide) rfl (by omega) (fun σ192 eσ192 => ?_)
          have hσ192 : zx_T σ192 := zx_ua15 eσ192 hσ180 (by omega)
          have hFσ192 : ∀ a i : Int, (¬ (a = 0 ∧ i = 26) ∧ ¬ (a = 0 ∧ i = 27) ∧ ¬ (a = 0 ∧ i = 30) ∧ a ≠ 15 ∧ a ≠ 16 ∧ a ≠ 18) → σ192 a i = σ a i := fun a i h => by rw [eσ192, zq_up_ne (fun q => h.2.2.2.1 q.1)]; exact hFσ180 a i h
          have Mσ192 : zx_M σ192 := zx_M_fr (fun i => by rw [eσ192]; exact zq_up_ne (by omega)) (by rw [eσ192]; exact zq_up_ne (by omega)) (by rw [eσ192]; exact zq_up_ne (by omega)) (by rw [eσ192]; exact zq_up_ne (by omega)) Mσ180
          have Oσ192 : zx_O σ192 := zx_O_fr (fun i => by rw [eσ192]; exact zq_up_ne (by omega)) (fun i => by rw [eσ192]; exact zq_up_ne (by omega)) (fun i => by rw [eσ192]; exact zq_up_ne (by omega)) (by rw [eσ192]; exact zq_up_ne (by omega)) (by rw [eσ192]; exact zq_up_ne (by omega)) Oσ180
          have Kσ192 : zx_K σ192 := zx_K_fr (fun i => by rw [eσ192]; exact zq_up_ne (by omega)) (by rw [eσ192]; exact zq_up_ne (by omega)) Kσ180
          have Wσ192 : zx_W σ192 := zx_W_fr (fun i => by rw [eσ192]; exact zq_up_ne (by omega)) (by rw [eσ192]; exact zq_up_ne (by omega)) (by rw [eσ192]; exact zq_up_ne (by omega)) (by rw [eσ192]; exact zq_up_ne (by omega)) (fun i => by rw [eσ192]; exact zq_up_ne (by omega)) Wσ180
          refine zr_aload_n (pc := 193) hV dX12_doStep_193 rfl rfl ?_
          refine zr_getR (pc := 194) hV 24 15 dX12_doStep_194 fX12_62 rfl rfl rfl (by decide) (zx_g24 hσ192) (by omega) ?_
          refine zr_sipush (pc := 197) hV 267 dX12_doStep_197 (by decide) ?_
          refine zr_dup2 (pc := 200) hV dX12_doStep_200 (fun _ => rfl) (fun _ => rfl) ?_
          refine zr_iald (pc := 201) hV dX12_doStep_201 rfl (by decide) rfl (by omega) ?_
          have t21 := zx_st hσ192 267
          have t22 : σ192 15 267 = σ180 15 267 := by rw [eσ192]; exact zq_up_ne (by omega)
          have t23 : σ180 15 267 = σ132 15 267 := by rw [eσ180]; exact zq_up_ne (by omega)
          refine zr_aload_n (pc := 202) hV dX12_doStep_202 rfl rfl ?_
          refine zr_getR (pc := 203) hV 10 7 dX12_doStep_203 fX12_38 rfl rfl rfl (by decide) (zx_g10 hσ192) (by omega) ?_
          refine zr_iload (pc := 206) hV dX12_doStep_206 rfl ?_
          refine zr_iald (pc := 208) hV dX12_doStep_208 rfl (by decide) rfl (by omega) ?_
          have t24 := zx_ga7 hσ192 r18
          have t25 : σ192 7 r18 = σ180 7 r18 := by rw [eσ192]; exact zq_up_ne (by omega)
          have t26 : σ180 7 r18 = σ132 7 r18 := by rw [eσ180]; exact zq_up_ne (by omega)
          have t27 : σ132 7 r18 = σ127 7 r18 := hfσ132 _ _ (by omega)
          have t28 : σ127 7 r18 = σ113 7 r18 := by rw [eσ127]; exact zq_up_ne (by omega)
          have t29 : σ113 7 r18 = σ98 7 r18 := by rw [eσ113]; exact zq_up_ne (by omega)
          have t30 : σ98 7 r18 = σ_38 7 r18 := by rw [eσ98]; exact zq_up_ne (by omega)
          have t31 : σ_38 7 r18 = σ 7 r18 := hFσ_38 _ _ (by omega)
          refine zr_iload (pc := 209) hV dX12_doStep_209 rfl ?_
          refine zr_iadd (pc := 211) hV dX12_doStep_211 ?_
          refine zr_any (pc := 212) hV (fun y212 hy212 jy212 => ?_)
          have wy212 : y212 = zs_w ((σ192 7 r18) + v0_80) := zs_w_any hy212 jy212
          clear jy212
          refine zr_iload (pc := 212) hV dX12_doStep_212 rfl ?_
          refine zr_if_eq (pc := 214) hV 224 dX12_doStep_214 (by decide) ⟨by decide, by decide⟩ (fun c32 => ?_) (fun c32 => ?_)
          · show V 224 [some (ZR 0), none, some (ZI (σ 15 265)), some (ZI (σ 14 (σ 15 265))), some (ZI r18), some (ZI v0_80), some (ZI 0)] [ZI y212, ZI (σ192 15 267), ZI 267, ZR 15] 41 σ192
            refine zr_iconst (pc := 224) hV 0 dX12_doStep_224 rfl ?_
            show V 225 [some (ZR 0), none, some (ZI (σ 15 265)), some (ZI (σ 14 (σ 15 265))), some (ZI r18), some (ZI v0_80), some (ZI 0)] [ZI 0, ZI y212, ZI (σ192 15 267), ZI 267, ZR 15] 41 σ192
            refine zr_iadd (pc := 225) hV dX12_doStep_225 ?_
            refine zr_iadd (pc := 226) hV dX12_doStep_226 ?_
            refine zr_any (pc := 227) hV (fun y227 hy227 jy227 => ?_)
            have wy227 : y227 = zs_w ((σ192 15 267) + (y212 + 0)) := zs_w_any hy227 jy227
            clear jy227
            refine zr_iast (pc := 227) hV dX12_doStep_227 rfl (by decide) rfl (by omega) (fun σ227 eσ227 => ?_)
            have hσ227 : zx_T σ227 := zx_ua15 eσ227 hσ192 (by omega)
            have hFσ227 : ∀ a i : Int, (¬ (a = 0 ∧ i = 26) ∧ ¬ (a = 0 ∧ i = 27) ∧ ¬ (a = 0 ∧ i = 30) ∧ a ≠ 15 ∧ a ≠ 16 ∧ a ≠ 18) → σ227 a i = σ a i := fun a i h => by rw [eσ227, zq_up_ne (fun q => h.2.2.2.1 q.1)]; exact hFσ192 a i h
            have Mσ227 : zx_M σ227 := zx_M_fr (fun i => by rw [eσ227]; exact zq_up_ne (by omega)) (by rw [eσ227]; exact zq_up_ne (by omega)) (by rw [eσ227]; exact zq_up_ne (by omega)) (by rw [eσ227]; exact zq_up_ne (by omega)) Mσ192
            have Oσ227 : zx_O σ227 := zx_O_fr (fun i => by rw [eσ227]; exact zq_up_ne (by omega)) (fun i => by rw [eσ227]; exact zq_up_ne (by omega)) (fun i => by rw [eσ227]; exact zq_up_ne (by omega)) (by rw [eσ227]; exact zq_up_ne (by omega)) (by rw [eσ227]; exact zq_up_ne (by omega)) Oσ192
            have Kσ227 : zx_K σ227 := zx_K_fr (fun i => by rw [eσ227]; exact zq_up_ne (by omega)) (by rw [eσ227]; exact zq_up_ne (by omega)) Kσ192
            have Wσ227 : zx_W σ227 := zx_W_fr (fun i => by rw [eσ227]; exact zq_up_ne (by omega)) (by rw [eσ227]; exact zq_up_ne (by omega)) (by rw [eσ227]; exact zq_up_ne (by omega)) (by rw [eσ227]; exact zq_up_ne (by omega)) (fun i => by rw [eσ227]; exact zq_up_ne (by omega)) Wσ192
            refine zr_aload_n (pc := 228) hV dX12_doStep_228 rfl rfl ?_
            refine zr_getR (pc := 229) hV 24 15 dX12_doStep_229 fX12_62 rfl rfl rfl (by decide) (zx_g24 hσ227) (by omega) ?_
            refine zr_sipush (pc := 232) hV 268 dX12_doStep_232 (by decide) ?_
            refine zr_dup2 (pc := 235) hV dX12_doStep_235 (fun _ => rfl) (fun _ => rfl) ?_
            refine zr_iald (pc := 236) hV dX12_doStep_236 rfl (by decide) rfl (by omega) ?_
            have t33 := zx_st hσ227 268
            have t34 : σ227 15 268 = σ192 15 268 := by rw [eσ227]; exact zq_up_ne (by omega)
            have t35 : σ192 15 268 = σ180 15 268 := by rw [eσ192]; exact zq_up_ne (by omega)
            have t36 : σ180 15 268 = σ132 15 268 := by rw [eσ180]; exact zq_up_ne (by omega)
            refine zr_iload (pc := 237) hV dX12_doStep_237 rfl ?_
            refine zr_iadd (pc := 239) hV dX12_doStep_239 ?_
            refine zr_any (pc := 240) hV (fun y240 hy240 jy240 => ?_)
            have wy240 : y240 = zs_w ((σ227 15 268) + v0_80) := zs_w_any hy240 jy240
            clear jy240
            refine zr_iast (pc := 240) hV dX12_doStep_240 rfl (by decide) rfl (by omega) (fun σ240 eσ240 => ?_)
            have hσ240 : zx_T σ240 := zx_ua15 eσ240 hσ227 (by omega)
            have hFσ240 : ∀ a i : Int, (¬ (a = 0 ∧ i = 26) ∧ ¬ (a = 0 ∧ i = 27) ∧ ¬ (a = 0 ∧ i = 30) ∧ a ≠ 15 ∧ a ≠ 16 ∧ a ≠ 18) → σ240 a i = σ a i := fun a i h => by rw [eσ240, zq_up_ne (fun q => h.2.2.2.1 q.1)]; exact hFσ227 a i h
            have Mσ240 : zx_M σ240 := zx_M_fr (fun i => by rw [eσ240]; exact zq_up_ne (by omega)) (by rw [eσ240]; exact zq_up_ne (by omega)) (by rw [eσ240]; exact zq_up_ne (by omega)) (by rw [eσ240]; exact zq_up_ne (by omega)) Mσ227
            have Oσ240 : zx_O σ240 := zx_O_fr (fun i => by rw [eσ240]; exact zq_up_ne (by omega)) (fun i => by rw [eσ240]; exact zq_up_ne (by omega)) (fun i => by rw [eσ240]; exact zq_up_ne (by omega)) (by rw [eσ240]; exact zq_up_ne (by omega)) (by rw [eσ240]; exact zq_up_ne (by omega)) Oσ227
            have Kσ240 : zx_K σ240 := zx_K_fr (fun i => by rw [eσ240]; exact zq_up_ne (by omega)) (by rw [eσ240]; exact zq_up_ne (by omega)) Kσ227
            have Wσ240 : zx_W σ240 := zx_W_fr (fun i => by rw [eσ240]; exact zq_up_ne (by omega)) (by rw [eσ240]; exact zq_up_ne (by omega)) (by rw [eσ240]; exact zq_up_ne (by omega)) (by rw [eσ240]; exact zq_up_ne (by omega)) (fun i => by rw [eσ240]; exact zq_up_ne (by omega)) Wσ227
            refine zr_aload_n (pc := 241) hV dX12_doStep_241 rfl rfl ?_
            refine zr_getR (pc := 242) hV 24 15 dX12_doStep_242 fX12_62 rfl rfl rfl (by decide) (zx_g24 hσ240) (by omega) ?_
            refine zr_sipush (pc := 245) hV 269 dX12_doStep_245 (by decide) ?_
            refine zr_dup2 (pc := 248) hV dX12_doStep_248 (fun _ => rfl) (fun _ => rfl) ?_
            refine zr_iald (pc := 249) hV dX12_doStep_249 rfl (by decide) rfl (by omega) ?_
            have t37 := zx_st hσ240 269
            have t38 : σ240 15 269 = σ227 15 269 := by rw [eσ240]; exact zq_up_ne (by omega)
            have t39 : σ227 15 269 = σ192 15 269 := by rw [eσ227]; exact zq_up_ne (by omega)
            have t40 : σ192 15 269 = σ180 15 269 := by rw [eσ192]; exact zq_up_ne (by omega)
            have t41 : σ180 15 269 = σ132 15 269 := by rw [eσ180]; exact zq_up_ne (by omega)
            refine zr_iload (pc := 250) hV dX12_doStep_250 rfl ?_
            refine zr_if_eq (pc := 252) hV 259 dX12_doStep_252 (by decide) ⟨by decide, by decide⟩ (fun c42 => ?_) (fun c42 => ?_)
            · show V 259 [some (ZR 0), none, some (ZI (σ 15 265)), some (ZI (σ 14 (σ 15 265))), some (ZI r18), some (ZI v0_80), some (ZI 0)] [ZI (σ240 15 269), ZI 269, ZR 15] 41 σ240
              refine zr_iconst (pc := 259) hV 0 dX12_doStep_259 rfl ?_
              show V 260 [some (ZR 0), none, some (ZI (σ 15 265)), some (ZI (σ 14 (σ 15 265))), some (ZI r18), some (ZI v0_80), some (ZI 0)] [ZI 0, ZI (σ240 15 269), ZI 269, ZR 15] 41 σ240
              refine zr_iadd (pc := 260) hV dX12_doStep_260 ?_
              refine zr_iast (pc := 261) hV dX12_doStep_261 rfl (by decide) rfl (by omega) (fun σ261 eσ261 => ?_)
              have hσ261 : zx_T σ261 := zx_ua15 eσ261 hσ240 (by omega)
              have hFσ261 : ∀ a i : Int, (¬ (a = 0 ∧ i = 26) ∧ ¬ (a = 0 ∧ i = 27) ∧ ¬ (a = 0 ∧ i = 30) ∧ a ≠ 15 ∧ a ≠ 16 ∧ a ≠ 18) → σ261 a i = σ a i := fun a i h => by rw [eσ261, zq_up_ne (fun q => h.2.2.2.1 q.1)]; exact hFσ240 a i h
              have Mσ261 : zx_M σ261 := zx_M_fr (fun i => by rw [eσ261]; exact zq_up_ne (by omega)) (by rw [eσ261]; exact zq_up_ne (by omega)) (by rw [eσ261]; exact zq_up_ne (by omega)) (by rw [eσ261]; exact zq_up_ne (by omega)) Mσ240
              have Oσ261 : zx_O σ261 := zx_O_fr (fun i => by rw [eσ261]; exact zq_up_ne (by omega)) (fun i => by rw [eσ261]; exact zq_up_ne (by omega)) (fun i => by rw [eσ261]; exact zq_up_ne (by omega)) (by rw [eσ261]; exact zq_up_ne (by omega)) (by rw [eσ261]; exact zq_up_ne (by omega)) Oσ240
              have Kσ261 : zx_K σ261 := zx_K_fr (fun i => by rw [eσ261]; exact zq_up_ne (by omega)) (by rw [eσ261]; exact zq_up_ne (by omega)) Kσ240
              have Wσ261 : zx_W σ261 := zx_W_fr (fun i => by rw [eσ261]; exact zq_up_ne (by omega)) (by rw [eσ261]; exact zq_up_ne (by omega)) (by rw [eσ261]; exact zq_up_ne (by omega)) (by rw [eσ261]; exact zq_up_ne (by omega)) (fun i => by rw [eσ261]; exact zq_up_ne (by omega)) Wσ240
              refine zr_iconst (pc := 262) hV 1 dX12_doStep_262 rfl ?_
              exact zr_zret (pc := 263) hV dX12_doStep_263 rfl rfl (by omega) ⟨_, rfl, ⟨by decide, by decide⟩, hσ261, hFσ261, (by omega), (show ((1 : Int) = 0 → zs_rno σ ∧ ∀ a i, a ≠ 18 → ¬ (a = 0 ∧ i = 30) → σ261 a i = σ a i) ∧ ((1 : Int) = 1 → zs_rd keeps σ σ261) from ⟨fun h => absurd h (by decide), fun _ => (by have k16 : ∀ j, σ261 16 j = σ_38 16 j := (fun j => by rw [eσ261, zq_up_ne (by omega), eσ240, zq_up_ne (by omega), eσ227, zq_up_ne (by omega), eσ192, zq_up_ne (by omega), eσ180, zq_up_ne (by omega), hfσ132 16 j (by omega), eσ127, zq_up_ne (by omega), eσ113, zq_up_ne (by omega), eσ98, zq_up_ne (by omega)]); have k27 : σ261 0 27 = σ_38 0 27 := (by rw [eσ261, zq_up_ne (by omega), eσ240, zq_up_ne (by omega), eσ227, zq_up_ne (by omega), eσ192, zq_up_ne (by omega), eσ180, zq_up_ne (by omega), hfσ132 0 27 (by omega), eσ127, zq_up_ne (by omega), eσ113, zq_up_ne (by omega), eσ98, zq_up_ne (by omega)]); have k26 : σ261 0 26 = σ_38 0 26 := (by rw [eσ261, zq_up_ne (by omega), eσ240, zq_up_ne (by omega), eσ227, zq_up_ne (by omega), eσ192, zq_up_ne (by omega), eσ180, zq_up_ne (by omega), hfσ132 0 26 (by omega), eσ127, zq_up_ne (by omega), eσ113, zq_up_ne (by omega), eσ98, zq_up_ne (by omega)]); exact ⟨r18, zow, by omega, zs_rr_mk (s1 := σ127) (s2 := σ132) (w := v0_80) okp hi80_0 ta c15 dd (fun i hi => hfσ132 15 i (by omega)) (fun i hi => by rw [eσ261, zq_up_ne (by omega), eσ240, zq_up_ne (by omega), eσ227, zq_up_ne (by omega), eσ192, zq_up_ne (by omega), eσ180, zq_up_ne (by omega)]) (by rw [eσ261, zq_up_ne (by omega), eσ240, zq_up_ne (by omega), eσ227, zq_up_ne (by omega), eσ192, zq_up_same, wy192, show σ180 15 266 = σ132 15 266 by omega]) (by rw [eσ261, zq_up_ne (by omega), eσ240, zq_up_ne (by omega), eσ227, zq_up_same, if_pos (by omega)]; unfold zs_w at wy212 wy227 ⊢; omega) (by rw [eσ261, zq_up_ne (by omega), eσ240, zq_up_same]; unfold zs_w at wy240 ⊢; omega) (by rw [eσ261, zq_up_same, if_pos (by omega), Int.add_zero, Int.add_zero, zs_w_id (zx_st hσ132 269)]; omega) (by rw [eσ261, zq_up_ne (by omega), eσ240, zq_up_ne (by omega), eσ227, zq_up_ne (by omega), eσ192, zq_up_ne (by omega), eσ180, zq_up_ne (by omega)]) (by rw [eσ261, zq_up_ne (by omega), eσ240, zq_up_ne (by omega), eσ227, zq_up_ne (by omega), eσ192, zq_up_ne (by omega), eσ180, zq_up_ne (by omega)]) (fun i hi => by rw [eσ261, zq_up_ne (by omega), eσ240, zq_up_ne (by omega), eσ227, zq_up_ne (by omega), eσ192, zq_up_ne (by omega), eσ180]; by_cases hc : i = 272 + σ 15 265; (rw [if_pos hc, hc, zq_up_same]); (rw [if_neg hc, zq_up_ne (by omega)])), fun q => ⟨fun j => by rw [k16]; exact (hi38_1.1 q).1 j, by rw [k27]; exact (hi38_1.1 q).2.1, by rw [k26]; exact (hi38_1.1 q).2.2⟩, fun q => ⟨fun j => by rw [k16]; exact (hi38_1.2 q).1 j, by rw [k26]; exact (hi38_1.2 q).2.1, by rw [k27]; exact (hi38_1.2 q).2.2⟩⟩)⟩), Mσ261, Oσ261, Kσ261, Wσ261⟩
            · exfalso; omega
          · exfalso; omega
        · show V 156 [some (ZR 0), none, some (ZI (σ 15 265)), some (ZI (σ 14 (σ 15 265))), some (ZI r18), some (ZI v0_80), none] [] 41 σ132
          refine zr_iconst (pc := 156) hV 1 dX12_doStep_156 rfl ?_
          refine zr_goto (pc := 157) hV 161 dX12_doStep_157 (by decide) ?_
          show V 161 [some (ZR 0), none, some (ZI (σ 15 265)), some (ZI (σ 14 (σ 15 265))), some (ZI r18), some (ZI v0_80), none] [ZI 1] 41 σ132
          refine zr_istore (pc := 161) hV [some (ZR 0), none, some (ZI (σ 15 265)), some (ZI (σ 14 (σ 15 265))), some (ZI r18), some (ZI v0_80), some (ZI 1)] dX12_doStep_161 (by decide) rfl rfl ?_
          refine zr_aload_n (pc := 163) hV dX12_doStep_163 rfl rfl ?_
          refine zr_getR (pc := 164) hV 24 15 dX12_doStep_164 fX12_62 rfl rfl rfl (by decide) (zx_g24 hσ132) (by omega) ?_
          refine zr_sipush (pc := 167) hV 272 dX12_doStep_167 (by decide) ?_
          refine zr_iload_n (pc := 170) hV dX12_doStep_170 rfl rfl ?_
          refine zr_iadd (pc := 171) hV dX12_doStep_171 ?_
          refine zr_aload_n (pc := 172) hV dX12_doStep_172 rfl rfl ?_
          refine zr_getR (pc := 173) hV 24 15 dX12_doStep_173 fX12_62 rfl rfl rfl (by decide) (zx_g24 hσ132) (by omega) ?_
          refine zr_sipush (pc := 176) hV 265 dX12_doStep_176 (by decide) ?_
          refine zr_iald (pc := 179) hV dX12_doStep_179 rfl (by decide) rfl (by omega) ?_
          have t43 := zx_stP hσ132
          refine zr_iast (pc := 180) hV dX12_doStep_180 rfl (by decide) rfl (by omega) (fun σ180 eσ180 => ?_)
          have hσ180 : zx_T σ180 := zx_ua15 eσ180 hσ132 (by omega)
          have hFσ180 : ∀ a i : Int, (¬ (a = 0 ∧ i = 26) ∧ ¬ (a = 0 ∧ i = 27) ∧ ¬ (a = 0 ∧ i = 30) ∧ a ≠ 15 ∧ a ≠ 16 ∧ a ≠ 18) → σ180 a i = σ a i := fun a i h => by rw [eσ180, zq_up_ne (fun q => h.2.2.2.1 q.1)]; exact hFσ132 a i h
          have Mσ180 : zx_M σ180 := zx_M_fr (fun i => by rw [eσ180]; exact zq_up_ne (by omega)) (by rw [eσ180]; exact zq_up_ne (by omega)) (by rw [eσ180]; exact zq_up_ne (by omega)) (by rw [eσ180]; exact zq_up_ne (by omega)) Mσ132
          have Oσ180 : zx_O σ180 := zx_O_fr (fun i => by rw [eσ180]; exact zq_up_ne (by omega)) (fun i => by rw [eσ180]; exact zq_up_ne (by omega)) (fun i => by rw [eσ180]; exact zq_up_ne (by omega)) (by rw [eσ180]; exact zq_up_ne (by omega)) (by rw [eσ180]; exact zq_up_ne (by omega)) Oσ132
          have Kσ180 : zx_K σ180 := zx_K_fr (fun i => by rw [eσ180]; exact zq_up_ne (by omega)) (by rw [eσ180]; exact zq_up_ne (by omega)) Kσ132
          have Wσ180 : zx_W σ180 := zx_W_fr (fun i => by rw [eσ180]; exact zq_up_ne (by omega)) (by rw [eσ180]; exact zq_up_ne (by omega)) (by rw [eσ180]; exact zq_up_ne (by omega)) (by rw [eσ180]; exact zq_up_ne (by omega)) (fun i => by rw [eσ180]; exact zq_up_ne (by omega)) Wσ132
          refine zr_aload_n (pc := 181) hV dX12_doStep_181 rfl rfl ?_
          refine zr_getR (pc := 182) hV 24 15 dX12_doStep_182 fX12_62 rfl rfl rfl (by decide) (zx_g24 hσ180) (by omega) ?_
          refine zr_sipush (pc := 185) hV 266 dX12_doStep_185 (by decide) ?_
          refine zr_dup2 (pc := 188) hV dX12_doStep_188 (fun _ => rfl) (fun _ => rfl) ?_
          refine zr_iald (pc := 189) hV dX12_doStep_189 rfl (by decide) rfl (by omega) ?_
          have t44 := zx_st hσ180 266
          have t45 : σ180 15 266 = σ132 15 266 := by rw [eσ180]; exact zq_up_ne (by omega)
          refine zr_iconst (pc := 190) hV 1 dX12_doStep_190 rfl ?_
          refine zr_iadd (pc := 191) hV dX12_doStep_191 ?_
          refine zr_any (pc := 192) hV (fun y192 hy192 jy192 => ?_)
          have wy192 : y192 = zs_w ((σ180 15 266) + 1) := zs_w_any hy192 jy192
          clear jy192
          refine zr_iast (pc := 192) hV dX12_doStep_192 rfl (by decide) rfl (by omega) (fun σ192 eσ192 => ?_)
          have hσ192 : zx_T σ192 := zx_ua15 eσ192 hσ180 (by omega)
          have hFσ192 : ∀ a i : Int, (¬ (a = 0 ∧ i = 26) ∧ ¬ (a = 0 ∧ i = 27) ∧ ¬ (a = 0 ∧ i = 30) ∧ a ≠ 15 ∧ a ≠ 16 ∧ a ≠ 18) → σ192 a i = σ a i := fun a i h => by rw [eσ192, zq_up_ne (fun q => h.2.2.2.1 q.1)]; exact hFσ180 a i h
          have Mσ192 : zx_M σ192 := zx_M_fr (fun i => by rw [eσ192]; exact zq_up_ne (by omega)) (by rw [eσ192]; exact zq_up_ne (by omega)) (by rw [eσ192]; exact zq_up_ne (by omega)) (by rw [eσ192]; exact zq_up_ne (by omega)) Mσ180
          have Oσ192 : zx_O σ192 := zx_O_fr (fun i => by rw [eσ192]; exact zq_up_ne (by omega)) (fun i => by rw [eσ192]; exact zq_up_ne (by omega)) (fun i => by rw [eσ192]; exact zq_up_ne (by omega)) (by rw [eσ192]; exact zq_up_ne (by omega)) (by rw [eσ192]; exact zq_up_ne (by omega)) Oσ180
          have Kσ192 : zx_K σ192 := zx_K_fr (fun i => by rw [eσ192]; exact zq_up_ne (by omega)) (by rw [eσ192]; exact zq_up_ne (by omega)) Kσ180
          have Wσ192 : zx_W σ192 := zx_W_fr (fun i => by rw [eσ192]; exact zq_up_ne (by omega)) (by rw [eσ192]; exact zq_up_ne (by omega)) (by rw [eσ192]; exact zq_up_ne (by omega)) (by rw [eσ192]; exact zq_up_ne (by omega)) (fun i => by rw [eσ192]; exact zq_up_ne (by omega)) Wσ180
          refine zr_aload_n (pc := 193) hV dX12_doStep_193 rfl rfl ?_
          refine zr_getR (pc := 194) hV 24 15 dX12_doStep_194 fX12_62 rfl rfl rfl (by decide) (zx_g24 hσ192) (by omega) ?_
          refine zr_sipush (pc := 197) hV 267 dX12_doStep_197 (by decide) ?_
          refine zr_dup2 (pc := 200) hV dX12_doStep_200 (fun _ => rfl) (fun _ => rfl) ?_
          refine zr_iald (pc := 201) hV dX12_doStep_201 rfl (by decide) rfl (by omega) ?_
          have t46 := zx_st hσ192 267
          have t47 : σ192 15 267 = σ180 15 267 := by rw [eσ192]; exact zq_up_ne (by omega)
          have t48 : σ180 15 267 = σ132 15 267 := by rw [eσ180]; exact zq_up_ne (by omega)
          refine zr_aload_n (pc := 202) hV dX12_doStep_202 rfl rfl ?_
          refine zr_getR (pc := 203) hV 10 7 dX12_doStep_203 fX12_38 rfl rfl rfl (by decide) (zx_g10 hσ192) (by omega) ?_
          refine zr_iload (pc := 206) hV dX12_doStep_206 rfl ?_
          refine zr_iald (pc := 208) hV dX12_doStep_208 rfl (by decide) rfl (by omega) ?_
          have t49 := zx_ga7 hσ192 r18
          have t50 : σ192 7 r18 = σ180 7 r18 := by rw [eσ192]; exact zq_up_ne (by omega)
          have t51 : σ180 7 r18 = σ132 7 r18 := by rw [eσ180]; exact zq_up_ne (by omega)
          have t52 : σ132 7 r18 = σ127 7 r18 := hfσ132 _ _ (by omega)
          have t53 : σ127 7 r18 = σ113 7 r18 := by rw [eσ127]; exact zq_up_ne (by omega)
          have t54 : σ113 7 r18 = σ98 7 r18 := by rw [eσ113]; exact zq_up_ne (by omega)
          have t55 : σ98 7 r18 = σ_38 7 r18 := by rw [eσ98]; exact zq_up_ne (by omega)
          have t56 : σ_38 7 r18 = σ 7 r18 := hFσ_38 _ _ (by omega)
          refine zr_iload (pc := 209) hV dX12_doStep_209 rfl ?_
          refine zr_iadd (pc := 211) hV dX12_doStep_211 ?_
          refine zr_any (pc := 212) hV (fun y212 hy212 jy212 => ?_)
          have wy212 : y212 = zs_w ((σ192 7 r18) + v0_80) := zs_w_any hy212 jy212
          clear jy212
          refine zr_iload (pc := 212) hV dX12_doStep_212 rfl ?_
          refine zr_if_eq (pc := 214) hV 224 dX12_doStep_214 (by decide) ⟨by decide, by decide⟩ (fun c57 => ?_) (fun c57 => ?_)
          · exfalso; omega
          · show V 217 [some (ZR 0), none, some (ZI (σ 15 265)), some (ZI (σ 14 (σ 15 265))), some (ZI r18), some (ZI v0_80), some (ZI 1)] [ZI y212, ZI (σ192 15 267), ZI 267, ZR 15] 41 σ192
            refine zr_aload_n (pc := 217) hV dX12_doStep_217 rfl rfl ?_
            refine zr_getI (pc := 218) hV 29 dX12_doStep_218 fX12_72 rfl rfl rfl (by decide) ?_
            have t58 := zx_g29 hσ192
            have t59 : σ192 0 29 = σ180 0 29 := by rw [eσ192]; exact zq_up_ne (by omega)
            have t60 : σ180 0 29 = σ132 0 29 := by rw [eσ180]; exact zq_up_ne (by omega)
            have t61 : σ132 0 29 = σ127 0 29 := hfσ132 _ _ (by omega)
            have t62 : σ127 0 29 = σ113 0 29 := by rw [eσ127]; exact zq_up_ne (by omega)
            have t63 : σ113 0 29 = σ98 0 29 := by rw [eσ113]; exact zq_up_ne (by omega)
            have t64 : σ98 0 29 = σ_38 0 29 := by rw [eσ98]; exact zq_up_ne (by omega)
            have t65 : σ_38 0 29 = σ 0 29 := hFσ_38 _ _ (by omega)
            refine zr_goto (pc := 221) hV 225 dX12_doStep_221 (by decide) ?_
            show V 225 [some (ZR 0), none, some (ZI (σ 15 265)), some (ZI (σ 14 (σ 15 265))), some (ZI r18), some (ZI v0_80), some (ZI 1)] [ZI (σ192 0 29), ZI y212, ZI (σ192 15 267), ZI 267, ZR 15] 41 σ192
            refine zr_iadd (pc := 225) hV dX12_doStep_225 ?_
            refine zr_any (pc := 226) hV (fun y226 hy226 jy226 => ?_)
            have wy226 : y226 = zs_w (y212 + (σ192 0 29)) := zs_w_any hy226 jy226
            clear jy226
            refine zr_iadd (pc := 226) hV dX12_doStep_226 ?_
            refine zr_any (pc := 227) hV (fun y227 hy227 jy227 => ?_)
            have wy227 : y227 = zs_w ((σ192 15 267) + y226) := zs_w_any hy227 jy227
            clear jy227
            refine zr_iast (pc := 227) hV dX12_doStep_227 rfl (by decide) rfl (by omega) (fun σ227 eσ227 => ?_)
            have hσ227 : zx_T σ227 := zx_ua15 eσ227 hσ192 (by omega)
            have hFσ227 : ∀ a i : Int, (¬ (a = 0 ∧ i = 26) ∧ ¬ (a = 0 ∧ i = 27) ∧ ¬ (a = 0 ∧ i = 30) ∧ a ≠ 15 ∧ a ≠ 16 ∧ a ≠ 18) → σ227 a i = σ a i := fun a i h => by rw [eσ227, zq_up_ne (fun q => h.2.2.2.1 q.1)]; exact hFσ192 a i h
            have Mσ227 : zx_M σ227 := zx_M_fr (fun i => by rw [eσ227]; exact zq_up_ne (by omega)) (by rw [eσ227]; exact zq_up_ne (by omega)) (by rw [eσ227]; exact zq_up_ne (by omega)) (by rw [eσ227]; exact zq_up_ne (by omega)) Mσ192
            have Oσ227 : zx_O σ227 := zx_O_fr (fun i => by rw [eσ227]; exact zq_up_ne (by omega)) (fun i => by rw [eσ227]; exact zq_up_ne (by omega)) (fun i => by rw [eσ227]; exact zq_up_ne (by omega)) (by rw [eσ227]; exact zq_up_ne (by omega)) (by rw [eσ227]; exact zq_up_ne (by omega)) Oσ192
            have Kσ227 : zx_K σ227 := zx_K_fr (fun i => by rw [eσ227]; exact zq_up_ne (by omega)) (by rw [eσ227]; exact zq_up_ne (by omega)) Kσ192
            have Wσ227 : zx_W σ227 := zx_W_fr (fun i => by rw [eσ227]; exact zq_up_ne (by omega)) (by rw [eσ227]; exact zq_up_ne (by omega)) (by rw [eσ227]; exact zq_up_ne (by omega)) (by rw [eσ227]; exact zq_up_ne (by omega)) (fun i => by rw [eσ227]; exact zq_up_ne (by omega)) Wσ192
            refine zr_aload_n (pc := 228) hV dX12_doStep_228 rfl rfl ?_
            refine zr_getR (pc := 229) hV 24 15 dX12_doStep_229 fX12_62 rfl rfl rfl (by decide) (zx_g24 hσ227) (by omega) ?_
            refine zr_sipush (pc := 232) hV 268 dX12_doStep_232 (by decide) ?_
            refine zr_dup2 (pc := 235) hV dX12_doStep_235 (fun _ => rfl) (fun _ => rfl) ?_
            refine zr_iald (pc := 236) hV dX12_doStep_236 rfl (by decide) rfl (by omega) ?_
            have t66 := zx_st hσ227 268
            have t67 : σ227 15 268 = σ192 15 268 := by rw [eσ227]; exact zq_up_ne (by omega)
            have t68 : σ192 15 268 = σ180 15 268 := by rw [eσ192]; exact zq_up_ne (by omega)
            have t69 : σ180 15 268 = σ132 15 268 := by rw [eσ180]; exact zq_up_ne (by omega)
            refine zr_iload (pc := 237) hV dX12_doStep_237 rfl ?_
            refine zr_iadd (pc := 239) hV dX12_doStep_239 ?_
            refine zr_any (pc := 240) hV (fun y240 hy240 jy240 => ?_)
            have wy240 : y240 = zs_w ((σ227 15 268) + v0_80) := zs_w_any hy240 jy240
            clear jy240
            refine zr_iast (pc := 240) hV dX12_doStep_240 rfl (by decide) rfl (by omega) (fun σ240 eσ240 => ?_)
            have hσ240 : zx_T σ240 := zx_ua15 eσ240 hσ227 (by omega)
            have hFσ240 : ∀ a i : Int, (¬ (a = 0 ∧ i = 26) ∧ ¬ (a = 0 ∧ i = 27) ∧ ¬ (a = 0 ∧ i = 30) ∧ a ≠ 15 ∧ a ≠ 16 ∧ a ≠ 18) → σ240 a i = σ a i := fun a i h => by rw [eσ240, zq_up_ne (fun q => h.2.2.2.1 q.1)]; exact hFσ227 a i h
            have Mσ240 : zx_M σ240 := zx_M_fr (fun i => by rw [eσ240]; exact zq_up_ne (by omega)) (by rw [eσ240]; exact zq_up_ne (by omega)) (by rw [eσ240]; exact zq_up_ne (by omega)) (by rw [eσ240]; exact zq_up_ne (by omega)) Mσ227
            have Oσ240 : zx_O σ240 := zx_O_fr (fun i => by rw [eσ240]; exact zq_up_ne (by omega)) (fun i => by rw [eσ240]; exact zq_up_ne (by omega)) (fun i => by rw [eσ240]; exact zq_up_ne (by omega)) (by rw [eσ240]; exact zq_up_ne (by omega)) (by rw [eσ240]; exact zq_up_ne (by omega)) Oσ227
            have Kσ240 : zx_K σ240 := zx_K_fr (fun i => by rw [eσ240]; exact zq_up_ne (by omega)) (by rw [eσ240]; exact zq_up_ne (by omega)) Kσ227
            have Wσ240 : zx_W σ240 := zx_W_fr (fun i => by rw [eσ240]; exact zq_up_ne (by omega)) (by rw [eσ240]; exact zq_up_ne (by omega)) (by rw [eσ240]; exact zq_up_ne (by omega)) (by rw [eσ240]; exact zq_up_ne (by omega)) (fun i => by rw [eσ240]; exact zq_up_ne (by omega)) Wσ227
            refine zr_aload_n (pc := 241) hV dX12_doStep_241 rfl rfl ?_
            refine zr_getR (pc := 242) hV 24 15 dX12_doStep_242 fX12_62 rfl rfl rfl (by decide) (zx_g24 hσ240) (by omega) ?_
            refine zr_sipush (pc := 245) hV 269 dX12_doStep_245 (by decide) ?_
            refine zr_dup2 (pc := 248) hV dX12_doStep_248 (fun _ => rfl) (fun _ => rfl) ?_
            refine zr_iald (pc := 249) hV dX12_doStep_249 rfl (by decide) rfl (by omega) ?_
            have t70 := zx_st hσ240 269
            have t71 : σ240 15 269 = σ227 15 269 := by rw [eσ240]; exact zq_up_ne (by omega)
            have t72 : σ227 15 269 = σ192 15 269 := by rw [eσ227]; exact zq_up_ne (by omega)
            have t73 : σ192 15 269 = σ180 15 269 := by rw [eσ192]; exact zq_up_ne (by omega)
            have t74 : σ180 15 269 = σ132 15 269 := by rw [eσ180]; exact zq_up_ne (by omega)
            refine zr_iload (pc := 250) hV dX12_doStep_250 rfl ?_
            refine zr_if_eq (pc := 252) hV 259 dX12_doStep_252 (by decide) ⟨by decide, by decide⟩ (fun c75 => ?_) (fun c75 => ?_)
            · exfalso; omega
            · show V 255 [some (ZR 0), none, some (ZI (σ 15 265)), some (ZI (σ 14 (σ 15 265))), some (ZI r18), some (ZI v0_80), some (ZI 1)] [ZI (σ240 15 269), ZI 269, ZR 15] 41 σ240
              refine zr_iconst (pc := 255) hV 1 dX12_doStep_255 rfl ?_
              refine zr_goto (pc := 256) hV 260 dX12_doStep_256 (by decide) ?_
              show V 260 [some (ZR 0), none, some (ZI (σ 15 265)), some (ZI (σ 14 (σ 15 265))), some (ZI r18), some (ZI v0_80), some (ZI 1)] [ZI 1, ZI (σ240 15 269), ZI 269, ZR 15] 41 σ240
              refine zr_iadd (pc := 260) hV dX12_doStep_260 ?_
              refine zr_any (pc := 261) hV (fun y261 hy261 jy261 => ?_)
              have wy261 : y261 = zs_w ((σ240 15 269) + 1) := zs_w_any hy261 jy261
              clear jy261
              refine zr_iast (pc := 261) hV dX12_doStep_261 rfl (by decide) rfl (by omega) (fun σ261 eσ261 => ?_)
              have hσ261 : zx_T σ261 := zx_ua15 eσ261 hσ240 (by omega)
              have hFσ261 : ∀ a i : Int, (¬ (a = 0 ∧ i = 26) ∧ ¬ (a = 0 ∧ i = 27) ∧ ¬ (a = 0 ∧ i = 30) ∧ a ≠ 15 ∧ a ≠ 16 ∧ a ≠ 18) → σ261 a i = σ a i := fun a i h => by rw [eσ261, zq_up_ne (fun q => h.2.2.2.1 q.1)]; exact hFσ240 a i h
              have Mσ261 : zx_M σ261 := zx_M_fr (fun i => by rw [eσ261]; exact zq_up_ne (by omega)) (by rw [eσ261]; exact zq_up_ne (by omega)) (by rw [eσ261]; exact zq_up_ne (by omega)) (by rw [eσ261]; exact zq_up_ne (by omega)) Mσ240
              have Oσ261 : zx_O σ261 := zx_O_fr (fun i => by rw [eσ261]; exact zq_up_ne (by omega)) (fun i => by rw [eσ261]; exact zq_up_ne (by omega)) (fun i => by rw [eσ261]; exact zq_up_ne (by omega)) (by rw [eσ261]; exact zq_up_ne (by omega)) (by rw [eσ261]; exact zq_up_ne (by omega)) Oσ240
              have Kσ261 : zx_K σ261 := zx_K_fr (fun i => by rw [eσ261]; exact zq_up_ne (by omega)) (by rw [eσ261]; exact zq_up_ne (by omega)) Kσ240
              have Wσ261 : zx_W σ261 := zx_W_fr (fun i => by rw [eσ261]; exact zq_up_ne (by omega)) (by rw [eσ261]; exact zq_up_ne (by omega)) (by rw [eσ261]; exact zq_up_ne (by omega)) (by rw [eσ261]; exact zq_up_ne (by omega)) (fun i => by rw [eσ261]; exact zq_up_ne (by omega)) Wσ240
              refine zr_iconst (pc := 262) hV 1 dX12_doStep_262 rfl ?_
              exact zr_zret (pc := 263) hV dX12_doStep_263 rfl rfl (by omega) ⟨_, rfl, ⟨by decide, by decide⟩, hσ261, hFσ261, (by omega), (show ((1 : Int) = 0 → zs_rno σ ∧ ∀ a i, a ≠ 18 → ¬ (a = 0 ∧ i = 30) → σ261 a i = σ a i) ∧ ((1 : Int) = 1 → zs_rd keeps σ σ261) from ⟨fun h => absurd h (by decide), fun _ => (by have k16 : ∀ j, σ261 16 j = σ_38 16 j := (fun j => by rw [eσ261, zq_up_ne (by omega), eσ240, zq_up_ne (by omega), eσ227, zq_up_ne (by omega), eσ192, zq_up_ne (by omega), eσ180, zq_up_ne (by omega), hfσ132 16 j (by omega), eσ127, zq_up_ne (by omega), eσ113, zq_up_ne (by omega), eσ98, zq_up_ne (by omega)]); have k27 : σ261 0 27 = σ_38 0 27 := (by rw [eσ261, zq_up_ne (by omega), eσ240, zq_up_ne (by omega), eσ227, zq_up_ne (by omega), eσ192, zq_up_ne (by omega), eσ180, zq_up_ne (by omega), hfσ132 0 27 (by omega), eσ127, zq_up_ne (by omega), eσ113, zq_up_ne (by omega), eσ98, zq_up_ne (by omega)]); have k26 : σ261 0 26 = σ_38 0 26 := (by rw [eσ261, zq_up_ne (by omega), eσ240, zq_up_ne (by omega), eσ227, zq_up_ne (by omega), eσ192, zq_up_ne (by omega), eσ180, zq_up_ne (by omega), hfσ132 0 26 (by omega), eσ127, zq_up_ne (by omega), eσ113, zq_up_ne (by omega), eσ98, zq_up_ne (by omega)]); exact ⟨r18, zow, by omega, zs_rr_mk (s1 := σ127) (s2 := σ132) (w := v0_80) okp hi80_0 ta c15 dd (fun i hi => hfσ132 15 i (by omega)) (fun i hi => by rw [eσ261, zq_up_ne (by omega), eσ240, zq_up_ne (by omega), eσ227, zq_up_ne (by omega), eσ192, zq_up_ne (by omega), eσ180, zq_up_ne (by omega)]) (by rw [eσ261, zq_up_ne (by omega), eσ240, zq_up_ne (by omega), eσ227, zq_up_ne (by omega), eσ192, zq_up_same, wy192, show σ180 15 266 = σ132 15 266 by omega]) (by rw [eσ261, zq_up_ne (by omega), eσ240, zq_up_ne (by omega), eσ227, zq_up_same, if_neg (by omega)]; unfold zs_w at wy212 wy226 wy227 ⊢; omega) (by rw [eσ261, zq_up_ne (by omega), eσ240, zq_up_same]; unfold zs_w at wy240 ⊢; omega) (by rw [eσ261, zq_up_same, if_neg (by omega)]; unfold zs_w at wy261 ⊢; omega) (by rw [eσ261, zq_up_ne (by omega), eσ240, zq_up_ne (by omega), eσ227, zq_up_ne (by omega), eσ192, zq_up_ne (by omega), eσ180, zq_up_ne (by omega)]) (by rw [eσ261, zq_up_ne (by omega), eσ240, zq_up_ne (by omega), eσ227, zq_up_ne (by omega), eσ192, zq_up_ne (by omega), eσ180, zq_up_ne (by omega)]) (fun i hi => by rw [eσ261, zq_up_ne (by omega), eσ240, zq_up_ne (by omega), eσ227, zq_up_ne (by omega), eσ192, zq_up_ne (by omega), eσ180]; by_cases hc : i = 272 + σ 15 265; (rw [if_pos hc, hc, zq_up_same]); (rw [if_neg hc, zq_up_ne (by omega)])), fun q => ⟨fun j => by rw [k16]; exact (hi38_1.1 q).1 j, by rw [k27]; exact (hi38_1.1 q).2.1, by rw [k26]; exact (hi38_1.1 q).2.2⟩, fun q => ⟨fun j => by rw [k16]; exact (hi38_1.2 q).1 j, by rw [k26]; exact (hi38_1.2 q).2.1, by rw [k27]; exact (hi38_1.2 q).2.2⟩⟩)⟩), Mσ261, Oσ261, Kσ261, Wσ261⟩
      refine zr_if_le (pc := 46) hV 79 dX12_doStep_46 (by decide) (by omega) (fun c76 => ?_) (fun c76 => ?_)
      · show V 79 [some (ZR 0), none, some (ZI (σ 15 265)), some (ZI (σ 14 (σ 15 265))), some (ZI r18), none, none] [] 41 σ_38
        refine zr_iconst (pc := 79) hV 0 dX12_doStep_79 rfl ?_
        exact J80 0 (by omega) (Or.inr ⟨(by first | exact fun h => absurd h.1 (by omega) | exact (fun h => by have xu : ∀ i : Nat, zw_tb r61 i ↔ (zw_us (zu_rf σ r18 (σ 14 (σ 15 265))) (σ 6) (18 * r18) (σ 5 r18) (σ 3 r18) (σ 4 r18)) i := (fun i => by have z := pr61.2.2 i; rw [eF, e6, e3o, e4o, e5o] at z; exact z); have la := q1 (by omega); obtain ⟨-, i, i1, i2, i3⟩ := h; exact absurd ((zw_tb_and (x := σ 15 271) (y := r61) (by omega) (by omega)).mpr ⟨i, i1, i2, (xu i).mpr i3⟩) (by rw [show σ 15 271 = σ_38 15 271 by omega]; omega))), rfl⟩)
      · show V 49 [some (ZR 0), none, some (ZI (σ 15 265)), some (ZI (σ 14 (σ 15 265))), some (ZI r18), none, none] [] 41 σ_38
        refine zr_aload_n (pc := 49) hV dX12_doStep_49 rfl rfl ?_
        refine zr_getR (pc := 50) hV 24 15 dX12_doStep_50 fX12_62 rfl rfl rfl (by decide) (zx_g24 hσ_38) (by omega) ?_
        refine zr_sipush (pc := 53) hV 271 dX12_doStep_53 (by decide) ?_
        refine zr_iald (pc := 56) hV dX12_doStep_56 rfl (by decide) rfl (by omega) ?_
        have t77 := zx_st hσ_38 271
        refine zr_aload_n (pc := 57) hV dX12_doStep_57 rfl rfl ?_
        refine zr_iload (pc := 58) hV dX12_doStep_58 rfl ?_
        refine zr_iload_n (pc := 60) hV dX12_doStep_60 rfl rfl ?_
        refine zr_callVp (pc := 61) hV [ZI r18, ZI (σ 14 (σ 15 265))] (st := [ZI (σ_38 15 271)]) (c_X12_usesOf2 (σ := σ_38) hσ_38 r18 (σ 14 (σ 15 265)) (by omega) (by omega) (zx_A_fr (fun i => hFσ_38 5 i (by omega)) (fun i => hFσ_38 6 i (by omega)) (Oσ r18 (by omega) (by omega)).1) (zx_B_fr (fun i => hFσ_38 2 i (by omega)) (hFσ_38 0 2 (by omega)) (Oσ r18 (by omega) (by omega)).2) (fun h => by rw [hFσ_38 4 r18 (by omega)]; rw [hFσ_38 3 r18 (by omega)] at h; exact q2 r18 (by omega) (by omega) h)) dX12_doStep_61 mX12_371 rfl (by decide) (by decide) (Nat.le_of_ble_eq_true rfl) (Nat.le_refl _) (fun r61 hr61 pr61 => ?_)
        refine zr_iand (pc := 64) hV dX12_doStep_64 ?_
        have t78 := zq_and_nnR (x := σ_38 15 271) (y := r61) (by omega)
        refine zr_if_eq (pc := 65) hV 79 dX12_doStep_65 (by decide) (by omega) (fun c79 => ?_) (fun c79 => ?_)
        · show V 79 [some (ZR 0), none, some (ZI (σ 15 265)), some (ZI (σ 14 (σ 15 265))), some (ZI r18), none, none] [] 41 σ_38
          refine zr_iconst (pc := 79) hV 0 dX12_doStep_79 rfl ?_
          exact J80 0 (by omega) (Or.inr ⟨(by first | exact fun h => absurd h.1 (by omega) | exact (fun h => by have xu : ∀ i : Nat, zw_tb r61 i ↔ (zw_us (zu_rf σ r18 (σ 14 (σ 15 265))) (σ 6) (18 * r18) (σ 5 r18) (σ 3 r18) (σ 4 r18)) i := (fun i => by have z := pr61.2.2 i; rw [eF, e6, e3o, e4o, e5o] at z; exact z); have la := q1 (by omega); obtain ⟨-, i, i1, i2, i3⟩ := h; exact absurd ((zw_tb_and (x := σ 15 271) (y := r61) (by omega) (by omega)).mpr ⟨i, i1, i2, (xu i).mpr i3⟩) (by rw [show σ 15 271 = σ_38 15 271 by omega]; omega))), rfl⟩)
        · show V 68 [some (ZR 0), none, some (ZI (σ 15 265)), some (ZI (σ 14 (σ 15 265))), some (ZI r18), none, none] [] 41 σ_38
          refine zr_aload_n (pc := 68) hV dX12_doStep_68 rfl rfl ?_
          refine zr_getR (pc := 69) hV 24 15 dX12_doStep_69 fX12_62 rfl rfl rfl (by decide) (zx_g24 hσ_38) (by omega) ?_
          refine zr_sipush (pc := 72) hV 270 dX12_doStep_72 (by decide) ?_
          refine zr_iald (pc := 75) hV dX12_doStep_75 rfl (by decide) rfl (by omega) ?_
          have t80 := zx_st hσ_38 270
          refine zr_goto (pc := 76) hV 80 dX12_doStep_76 (by decide) ?_
          exact J80 (σ_38 15 270) (by omega) (Or.inl ⟨by omega, (by have xu : ∀ i : Nat, zw_tb r61 i ↔ (zw_us (zu_rf σ r18 (σ 14 (σ 15 265))) (σ 6) (18 * r18) (σ 5 r18) (σ 3 r18) (σ 4 r18)) i := (fun i => by have z := pr61.2.2 i; rw [eF, e6, e3o, e4o, e5o] at z; exact z); have la := q1 (by omega); obtain ⟨i, i1, i2, i3⟩ := (zw_tb_and (x := σ 15 271) (y := r61) (by omega) (by omega)).mp (by rw [show σ 15 271 = σ_38 15 271 by omega]; omega); exact ⟨i, i1, i2, (xu i).mp i3⟩), by omega⟩)
    refine zr_if_eq (pc := 31) hV 38 dX12_doStep_31 (by decide) (by omega) (fun c81 => ?_) (fun c81 => ?_)
    · have t82 := zx_g26 hσ18
      have t83 : σ18 0 26 = σ 0 26 := hfσ18 _ _ (by omega)
      have t84 := zx_g27 hσ18
      have t85 : σ18 0 27 = σ 0 27 := hfσ18 _ _ (by omega)
      refine zr_sub (pc := 38) hV [some (ZR 0), none, some (ZI (σ 15 265)), some (ZI (σ 14 (σ 15 265))), some (ZI r18), none, none] (⟨rfl, rfl, rfl, rfl, trivial⟩) ?_
      exact J38 σ18 hσ18 hFσ18 Mσ18 Oσ18 Kσ18 Wσ18 (fun i => hfσ18 15 i (by omega)) ⟨fun h => absurd h (by omega), fun _ => ⟨fun j => hfσ18 16 j (by omega), by omega, by omega⟩⟩
    · show V 34 [some (ZR 0), some (ZI keeps), some (ZI (σ 15 265)), some (ZI (σ 14 (σ 15 265))), some (ZI r18), none, none] [] 41 σ18
      refine zr_aload_n (pc := 34) hV dX12_doStep_34 rfl rfl ?_
      refine zr_callVv (pc := 35) hV [] (st := []) (c_X12_keepPast2 (σ := σ18) hσ18 ) dX12_doStep_35 mX12_368 rfl (by decide) (by decide) (Nat.le_of_ble_eq_true rfl) (Nat.le_refl _) (fun σ35 pσ35 => ?_)
      obtain ⟨hσ35, hfσ35, pσ35, wσ35⟩ := pσ35
      have Mσ35 : zx_M σ35 := zx_M_fr (fun i => hfσ35 18 i (by omega)) (hfσ35 0 30 (by omega)) (hfσ35 0 2 (by omega)) (hfσ35 0 3 (by omega)) Mσ18
      have Oσ35 : zx_O σ35 := zx_O_fr (fun i => hfσ35 2 i (by omega)) (fun i => hfσ35 5 i (by omega)) (fun i => hfσ35 6 i (by omega)) (hfσ35 0 2 (by omega)) (hfσ35 0 3 (by omega)) Oσ18
      have Kσ35 : zx_K σ35 := zx_K_fr (fun i => hfσ35 14 i (by omega)) (hfσ35 0 2 (by omega)) Kσ18
      have Wσ35 : zx_W σ35 := zx_W_fr (fun i => hfσ35 18 i (by omega)) (hfσ35 0 30 (by omega)) (hfσ35 0 2 (by omega)) (hfσ35 0 3 (by omega)) (fun i => hfσ35 2 i (by omega)) Wσ18
      have hFσ35 : ∀ a i : Int, (¬ (a = 0 ∧ i = 26) ∧ ¬ (a = 0 ∧ i = 27) ∧ ¬ (a = 0 ∧ i = 30) ∧ a ≠ 15 ∧ a ≠ 16 ∧ a ≠ 18) → σ35 a i = σ a i := fun a i h => (hfσ35 a i ⟨h.1, h.2.1, h.2.2.2.2.1⟩).trans (hFσ18 a i h)
      have t86 := zx_g26 hσ18
      have t87 : σ18 0 26 = σ 0 26 := hfσ18 _ _ (by omega)
      have t88 := zx_g27 hσ18
      have t89 : σ18 0 27 = σ 0 27 := hfσ18 _ _ (by omega)
      have t90 := zx_g26 hσ35
      have t91 := zx_g27 hσ35
      have t92 := zx_g26 hσ35
      have t93 := zx_g27 hσ35
      refine zr_sub (pc := 38) hV [some (ZR 0), none, some (ZI (σ 15 265)), some (ZI (σ 14 (σ 15 265))), some (ZI r18), none, none] (⟨rfl, rfl, rfl, rfl, trivial⟩) ?_
      exact J38 σ35 hσ35 hFσ35 Mσ35 Oσ35 Kσ35 Wσ35 (fun i => by rw [hfσ35 15 i (by omega)]; exact hfσ18 15 i (by omega)) ⟨fun _ => ⟨fun j => by have w := wσ35 j; rw [hfσ18 0 27 (by omega), hfσ18 15 _ (by omega), hfσ18 16 _ (by omega)] at w; exact w, by omega, by omega⟩, fun h => absurd h (by omega)⟩
  · show V 28 [some (ZR 0), some (ZI keeps), some (ZI (σ 15 265)), some (ZI (σ 14 (σ 15 265))), some (ZI r18), none, none] [] 41 σ18
    refine zr_iconst (pc := 28) hV 0 dX12_doStep_28 rfl ?_
    exact zr_zret (pc := 29) hV dX12_doStep_29 rfl rfl (by omega) ⟨_, rfl, ⟨by decide, by decide⟩, hσ18, hFσ18, (by omega), (show ((0 : Int) = 0 → zs_rno σ ∧ ∀ a i, a ≠ 18 → ¬ (a = 0 ∧ i = 30) → σ18 a i = σ a i) ∧ ((0 : Int) = 1 → zs_rd keeps σ σ18) from ⟨fun _ => ⟨⟨r18, zow, by omega⟩, fun a i h1 h2 => hfσ18 a i (by omega)⟩, fun h => absurd h (by decide)⟩), Mσ18, Oσ18, Kσ18, Wσ18⟩
