set_option maxHeartbeats 800000 in
theorem c_X12_doStepW {σ : zq_S} (hσ : zx_T σ) (keeps : Int) (q0 : 0 ≤ keeps ∧ keeps ≤ 1) (Mσ : zx_M σ) (Oσ : zx_O σ) (Kσ : zx_K σ) (Wσ : zx_W σ) : zq_C zx_w yX12_doStep cX12_doStep 7 (some .boolean) 4 101 41 41 [ZR 0, ZI keeps] σ (zq_pi (fun r τ => zx_T τ ∧ (∀ a i : Int, (¬ (a = 0 ∧ i = 26) ∧ ¬ (a = 0 ∧ i = 27) ∧ ¬ (a = 0 ∧ i = 30) ∧ a ≠ 15 ∧ a ≠ 16 ∧ a ≠ 18) → τ a i = σ a i) ∧ ((r = 0 ∨ r = 1)) ∧ zx_M τ ∧ zx_O τ ∧ zx_K τ ∧ zx_W τ)) := by
  refine zq_C_of (by decide) (Nat.le_refl _) (Nat.le_of_ble_eq_true rfl) [some (ZR 0), some (ZI keeps), none, none, none, none, none] rfl (fun V hV => ?_)
  show V 0 [some (ZR 0), some (ZI keeps), none, none, none, none, none] [] 41 σ
  refine zr_aload_n (pc := 0) hV dX12_doStep_0 rfl rfl ?_
  refine zr_getR (pc := 1) hV 24 15 dX12_doStep_1 fX12_62 rfl rfl rfl (by decide) (zx_g24 hσ) (by omega) ?_
  refine zr_sipush (pc := 4) hV 265 dX12_doStep_4 (by decide) ?_
  refine zr_iald (pc := 7) hV dX12_doStep_7 rfl (by decide) rfl (by omega) ?_
  have t1 := zx_stP hσ
  refine zr_istore_n (pc := 8) hV [some (ZR 0), some (ZI keeps), some (ZI (σ 15 265)), none, none, none, none] dX12_doStep_8 rfl (by decide) rfl rfl ?_
  refine zr_aload_n (pc := 9) hV dX12_doStep_9 rfl rfl ?_
  refine zr_getR (pc := 10) hV 23 14 dX12_doStep_10 fX12_59 rfl rfl rfl (by decide) (zx_g23 hσ) (by omega) ?_
  refine zr_iload_n (pc := 13) hV dX12_doStep_13 rfl rfl ?_
  refine zr_iald (pc := 14) hV dX12_doStep_14 rfl (by decide) rfl (by omega) ?_
  have t2 := zx_ga14 hσ (σ 15 265)
  refine zr_istore_n (pc := 15) hV [some (ZR 0), some (ZI keeps), some (ZI (σ 15 265)), some (ZI (σ 14 (σ 15 265))), none, none, none] dX12_doStep_15 rfl (by decide) rfl rfl ?_
  refine zr_aload_n (pc := 16) hV dX12_doStep_16 rfl rfl ?_
  refine zr_iload_n (pc := 17) hV dX12_doStep_17 rfl rfl ?_
  refine zr_callVi (pc := 18) hV [ZI (σ 14 (σ 15 265))] (st := []) (c_X12_ownerOf2 (σ := σ) hσ (σ 14 (σ 15 265)) (by omega) Mσ Wσ) dX12_doStep_18 mX12_283 rfl (by decide) (by decide) (Nat.le_of_ble_eq_true rfl) (Nat.le_refl _) (fun r18 σ18 hr18 pσ18 => ?_)
  obtain ⟨hσ18, hfσ18, pσ18⟩ := pσ18
  have Mσ18 : zx_M σ18 := pσ18.2.2.2.2.2.1
  have Oσ18 : zx_O σ18 := zx_O_fr (fun i => hfσ18 2 i (by omega)) (fun i => hfσ18 5 i (by omega)) (fun i => hfσ18 6 i (by omega)) (hfσ18 0 2 (by omega)) (hfσ18 0 3 (by omega)) Oσ
  have Kσ18 : zx_K σ18 := zx_K_fr (fun i => hfσ18 14 i (by omega)) (hfσ18 0 2 (by omega)) Kσ
  have Wσ18 : zx_W σ18 := pσ18.2.2.2.2.2.2
  have hFσ18 : ∀ a i : Int, (¬ (a = 0 ∧ i = 26) ∧ ¬ (a = 0 ∧ i = 27) ∧ ¬ (a = 0 ∧ i = 30) ∧ a ≠ 15 ∧ a ≠ 16 ∧ a ≠ 18) → σ18 a i = σ a i := fun a i h => (hfσ18 a i ⟨h.2.2.1, h.2.2.2.2.2⟩)
  have t3 := zx_g30 hσ
  have t4 := zx_g30 hσ18
  have zk := Kσ (σ 15 265) (by omega) (by omega)
  have z2 := hfσ18 0 2 (by omega)
  have z3 := hfσ18 0 3 (by omega)
  have zo : σ18 18 (σ 14 (σ 15 265)) < σ18 0 3 := Mσ18 pσ18.2.2.2.1 (σ 14 (σ 15 265)) (by omega) (by rw [z2]; exact zk)
  have z33 := zx_g3 hσ
  refine zr_istore (pc := 21) hV [some (ZR 0), some (ZI keeps), some (ZI (σ 15 265)), some (ZI (σ 14 (σ 15 265))), some (ZI r18), none, none] dX12_doStep_21 (by decide) rfl rfl ?_
  refine zr_iload (pc := 23) hV dX12_doStep_23 rfl ?_
  refine zr_if_ge (pc := 25) hV 30 dX12_doStep_25 (by decide) (by omega) (fun c5 => ?_) (fun c5 => ?_)
  · show V 30 [some (ZR 0), some (ZI keeps), some (ZI (σ 15 265)), some (ZI (σ 14 (σ 15 265))), some (ZI r18), none, none] [] 41 σ18
    refine zr_iload_n (pc := 30) hV dX12_doStep_30 rfl rfl ?_
    have J38 : ∀ (σ_38 : zq_S), (zx_T σ_38) → (∀ a i : Int, (¬ (a = 0 ∧ i = 26) ∧ ¬ (a = 0 ∧ i = 27) ∧ ¬ (a = 0 ∧ i = 30) ∧ a ≠ 15 ∧ a ≠ 16 ∧ a ≠ 18) → σ_38 a i = σ a i) → (zx_M σ_38) → (zx_O σ_38) → (zx_K σ_38) → (zx_W σ_38) → V 38 [some (ZR 0), none, some (ZI (σ 15 265)), some (ZI (σ 14 (σ 15 265))), some (ZI r18), none, none] [] 41 σ_38 := by
      intro σ_38 hσ_38 hFσ_38 Mσ_38 Oσ_38 Kσ_38 Wσ_38
      show V 38 [some (ZR 0), none, some (ZI (σ 15 265)), some (ZI (σ 14 (σ 15 265))), some (ZI r18), none, none] [] 41 σ_38
      refine zr_aload_n (pc := 38) hV dX12_doStep_38 rfl rfl ?_
      refine zr_getR (pc := 39) hV 24 15 dX12_doStep_39 fX12_62 rfl rfl rfl (by decide) (zx_g24 hσ_38) (by omega) ?_
      refine zr_sipush (pc := 42) hV 270 dX12_doStep_42 (by decide) ?_
      refine zr_iald (pc := 45) hV dX12_doStep_45 rfl (by decide) rfl (by omega) ?_
      have t6 := zx_st hσ_38 270
      have J80 : ∀ (v0_80 : Int), (0 ≤ v0_80 ∧ v0_80 ≤ 2147483647) → V 80 [some (ZR 0), none, some (ZI (σ 15 265)), some (ZI (σ 14 (σ 15 265))), some (ZI r18), none, none] [ZI v0_80] 41 σ_38 := by
        intro v0_80 hv0_80
        show V 80 [some (ZR 0), none, some (ZI (σ 15 265)), some (ZI (σ 14 (σ 15 265))), some (ZI r18), none, none] [ZI v0_80] 41 σ_38
        refine zr_istore (pc := 80) hV [some (ZR 0), none, some (ZI (σ 15 265)), some (ZI (σ 14 (σ 15 265))), some (ZI r18), some (ZI v0_80), none] dX12_doStep_80 (by decide) rfl rfl ?_
        refine zr_aload_n (pc := 82) hV dX12_doStep_82 rfl rfl ?_
        refine zr_getR (pc := 83) hV 24 15 dX12_doStep_83 fX12_62 rfl rfl rfl (by decide) (zx_g24 hσ_38) (by omega) ?_
        refine zr_sipush (pc := 86) hV 270 dX12_doStep_86 (by decide) ?_
        refine zr_aload_n (pc := 89) hV dX12_doStep_89 rfl rfl ?_
        refine zr_getR (pc := 90) hV 10 7 dX12_doStep_90 fX12_38 rfl rfl rfl (by decide) (zx_g10 hσ_38) (by omega) ?_
        refine zr_iload (pc := 93) hV dX12_doStep_93 rfl ?_
        refine zr_iald (pc := 95) hV dX12_doStep_95 rfl (by decide) rfl (by omega) ?_
        have t7 := zx_ga7 hσ_38 r18
        have t8 : σ_38 7 r18 = σ 7 r18 := hFσ_38 _ _ (by omega)
        refine zr_iconst (pc := 96) hV 1 dX12_doStep_96 rfl ?_
        refine zr_isub (pc := 97) hV dX12_doStep_97 ?_
        refine zr_iast (pc := 98) hV dX12_doStep_98 rfl (by decide) rfl (by omega) (fun σ98 eσ98 => ?_)
        have hσ98 : zx_T σ98 := zx_ua15 eσ98 hσ_38 (by omega)
        have hFσ98 : ∀ a i : Int, (¬ (a = 0 ∧ i = 26) ∧ ¬ (a = 0 ∧ i = 27) ∧ ¬ (a = 0 ∧ i = 30) ∧ a ≠ 15 ∧ a ≠ 16 ∧ a ≠ 18) → σ98 a i = σ a i := fun a i h => by rw [eσ98, zq_up_ne (fun q => h.2.2.2.1 q.1)]; exact hFσ_38 a i h
        have Mσ98 : zx_M σ98 := zx_M_fr (fun i => by rw [eσ98]; exact zq_up_ne (by omega)) (by rw [eσ98]; exact zq_up_ne (by omega)) (by rw [eσ98]; exact zq_up_ne (by omega)) (by rw [eσ98]; exact zq_up_ne (by omega)) Mσ_38
        have Oσ98 : zx_O σ98 := zx_O_fr (fun i => by rw [eσ98]; exact zq_up_ne (by omega)) (fun i => by rw [eσ98]; exact zq_up_ne (by omega)) (fun i => by rw [eσ98]; exact zq_up_ne (by omega)) (by rw [eσ98]; exact zq_up_ne (by omega)) (by rw [eσ98]; exact zq_up_ne (by omega)) Oσ_38
        have Kσ98 : zx_K σ98 := zx_K_fr (fun i => by rw [eσ98]; exact zq_up_ne (by omega)) (by rw [eσ98]; exact zq_up_ne (by omega)) Kσ_38
        have Wσ98 : zx_W σ98 := zx_W_fr (fun i => by rw [eσ98]; exact zq_up_ne (by omega)) (by rw [eσ98]; exact zq_up_ne (by omega)) (by rw [eσ98]; exact zq_up_ne (by omega)) (by rw [eσ98]; exact zq_up_ne (by omega)) (fun i => by rw [eσ98]; exact zq_up_ne (by omega)) Wσ_38
        refine zr_aload_n (pc := 99) hV dX12_doStep_99 rfl rfl ?_
        refine zr_getR (pc := 100) hV 24 15 dX12_doStep_100 fX12_62 rfl rfl rfl (by decide) (zx_g24 hσ98) (by omega) ?_
        refine zr_sipush (pc := 103) hV 271 dX12_doStep_103 (by decide) ?_
        refine zr_aload_n (pc := 106) hV dX12_doStep_106 rfl rfl ?_
        refine zr_iload (pc := 107) hV dX12_doStep_107 rfl ?_
        refine zr_iload_n (pc := 109) hV dX12_doStep_109 rfl rfl ?_
        refine zr_callVp (pc := 110) hV [ZI r18, ZI (σ 14 (σ 15 265))] (st := [ZI 271, ZR 15]) (c_X12_targetsOf (σ := σ98) hσ98 r18 (σ 14 (σ 15 265)) (by omega) (by omega) (zx_B_fr (fun i => hFσ98 2 i (by omega)) (hFσ98 0 2 (by omega)) (Oσ r18 (by omega) (by omega)).2)) dX12_doStep_110 mX12_374 rfl (by decide) (by decide) (Nat.le_of_ble_eq_true rfl) (Nat.le_refl _) (fun r110 hr110 pr110 => ?_)
        refine zr_iast (pc := 113) hV dX12_doStep_113 rfl (by decide) rfl (by omega) (fun σ113 eσ113 => ?_)
        have hσ113 : zx_T σ113 := zx_ua15 eσ113 hσ98 (by omega)
        have hFσ113 : ∀ a i : Int, (¬ (a = 0 ∧ i = 26) ∧ ¬ (a = 0 ∧ i = 27) ∧ ¬ (a = 0 ∧ i = 30) ∧ a ≠ 15 ∧ a ≠ 16 ∧ a ≠ 18) → σ113 a i = σ a i := fun a i h => by rw [eσ113, zq_up_ne (fun q => h.2.2.2.1 q.1)]; exact hFσ98 a i h
        have Mσ113 : zx_M σ113 := zx_M_fr (fun i => by rw [eσ113]; exact zq_up_ne (by omega)) (by rw [eσ113]; exact zq_up_ne (by omega)) (by rw [eσ113]; exact zq_up_ne (by omega)) (by rw [eσ113]; exact zq_up_ne (by omega)) Mσ98
        have Oσ113 : zx_O σ113 := zx_O_fr (fun i => by rw [eσ113]; exact zq_up_ne (by omega)) (fun i => by rw [eσ113]; exact zq_up_ne (by omega)) (fun i => by rw [eσ113]; exact zq_up_ne (by omega)) (by rw [eσ113]; exact zq_up_ne (by omega)) (by rw [eσ113]; exact zq_up_ne (by omega)) Oσ98
        have Kσ113 : zx_K σ113 := zx_K_fr (fun i => by rw [eσ113]; exact zq_up_ne (by omega)) (by rw [eσ113]; exact zq_up_ne (by omega)) Kσ98
        have Wσ113 : zx_W σ113 := zx_W_fr (fun i => by rw [eσ113]; exact zq_up_ne (by omega)) (by rw [eσ113]; exact zq_up_ne (by omega)) (by rw [eσ113]; exact zq_up_ne (by omega)) (by rw [eσ113]; exact zq_up_ne (by omega)) (fun i => by rw [eσ113]; exact zq_up_ne (by omega)) Wσ98
        refine zr_aload_n (pc := 114) hV dX12_doStep_114 rfl rfl ?_
        refine zr_getR (pc := 115) hV 24 15 dX12_doStep_115 fX12_62 rfl rfl rfl (by decide) (zx_g24 hσ113) (by omega) ?_
        refine zr_sipush (pc := 118) hV 265 dX12_doStep_118 (by decide) ?_
        refine zr_iload_n (pc := 121) hV dX12_doStep_121 rfl rfl ?_
        refine zr_iconst (pc := 122) hV 1 dX12_doStep_122 rfl ?_
        refine zr_iadd (pc := 123) hV dX12_doStep_123 ?_
        refine zr_bipush (pc := 124) hV 64 dX12_doStep_124 (by decide) ?_
        refine zr_irem (pc := 126) hV dX12_doStep_126 ⟨by decide, by decide⟩ (by omega) ?_
        have t9 := zq_rem_c (x := (σ 15 265) + 1) 64 (by decide) (by omega)
        refine zr_iast (pc := 127) hV dX12_doStep_127 rfl (by decide) rfl (by omega) (fun σ127 eσ127 => ?_)
        have hσ127 : zx_T σ127 := zx_ua15 eσ127 hσ113 (by omega)
        have hFσ127 : ∀ a i : Int, (¬ (a = 0 ∧ i = 26) ∧ ¬ (a = 0 ∧ i = 27) ∧ ¬ (a = 0 ∧ i = 30) ∧ a ≠ 15 ∧ a ≠ 16 ∧ a ≠ 18) → σ127 a i = σ a i := fun a i h => by rw [eσ127, zq_up_ne (fun q => h.2.2.2.1 q.1)]; exact hFσ113 a i h
        have Mσ127 : zx_M σ127 := zx_M_fr (fun i => by rw [eσ127]; exact zq_up_ne (by omega)) (by rw [eσ127]; exact zq_up_ne (by omega)) (by rw [eσ127]; exact zq_up_ne (by omega)) (by rw [eσ127]; exact zq_up_ne (by omega)) Mσ113
        have Oσ127 : zx_O σ127 := zx_O_fr (fun i => by rw [eσ127]; exact zq_up_ne (by omega)) (fun i => by rw [eσ127]; exact zq_up_ne (by omega)) (fun i => by rw [eσ127]; exact zq_up_ne (by omega)) (by rw [eσ127]; exact zq_up_ne (by omega)) (by rw [eσ127]; exact zq_up_ne (by omega)) Oσ113
        have Kσ127 : zx_K σ127 := zx_K_fr (fun i => by rw [eσ127]; exact zq_up_ne (by omega)) (by rw [eσ127]; exact zq_up_ne (by omega)) Kσ113
        have Wσ127 : zx_W σ127 := zx_W_fr (fun i => by rw [eσ127]; exact zq_up_ne (by omega)) (by rw [eσ127]; exact zq_up_ne (by omega)) (by rw [eσ127]; exact zq_up_ne (by omega)) (by rw [eσ127]; exact zq_up_ne (by omega)) (fun i => by rw [eσ127]; exact zq_up_ne (by omega)) Wσ113
        refine zr_aload_n (pc := 128) hV dX12_doStep_128 rfl rfl ?_
        refine zr_iload (pc := 129) hV dX12_doStep_129 rfl ?_
        refine zr_iload_n (pc := 131) hV dX12_doStep_131 rfl rfl ?_
        refine zr_callVv (pc := 132) hV [ZI r18, ZI (σ 14 (σ 15 265))] (st := []) (c_X12_doOrder (σ := σ127) hσ127 r18 (σ 14 (σ 15 265)) (by omega) (by omega) (zx_A_fr (fun i => hFσ127 5 i (by omega)) (fun i => hFσ127 6 i (by omega)) (Oσ r18 (by omega) (by omega)).1) (zx_B_fr (fun i => hFσ127 2 i (by omega)) (hFσ127 0 2 (by omega)) (Oσ r18 (by omega) (by omega)).2)) dX12_doStep_132 mX12_377 rfl (by decide) (by decide) (Nat.le_of_ble_eq_true rfl) (Nat.le_refl _) (fun σ132 pσ132 => ?_)
        obtain ⟨hσ132, hfσ132, pσ132⟩ := pσ132
        have Mσ132 : zx_M σ132 := zx_M_fr (fun i => hfσ132 18 i (by omega)) (hfσ132 0 30 (by omega)) (hfσ132 0 2 (by omega)) (hfσ132 0 3 (by omega)) Mσ127
        have Oσ132 : zx_O σ132 := zx_O_fr (fun i => hfσ132 2 i (by omega)) (fun i => hfσ132 5 i (by omega)) (fun i => hfσ132 6 i (by omega)) (hfσ132 0 2 (by omega)) (hfσ132 0 3 (by omega)) Oσ127
        have Kσ132 : zx_K σ132 := zx_K_fr (fun i => hfσ132 14 i (by omega)) (hfσ132 0 2 (by omega)) Kσ127
        have Wσ132 : zx_W σ132 := zx_W_fr (fun i => hfσ132 18 i (by omega)) (hfσ132 0 30 (by omega)) (hfσ132 0 2 (by omega)) (hfσ132 0 3 (by omega)) (fun i => hfσ132 2 i (by omega)) Wσ127
        have hFσ132 : ∀ a i : Int, (¬ (a = 0 ∧ i = 26) ∧ ¬ (a = 0 ∧ i = 27) ∧ ¬ (a = 0 ∧ i = 30) ∧ a ≠ 15 ∧ a ≠ 16 ∧ a ≠ 18) → σ132 a i = σ a i := fun a i h => (hfσ132 a i h.2.2.2.1).trans (hFσ127 a i h)
        refine zr_aload_n (pc := 135) hV dX12_doStep_135 rfl rfl ?_
        refine zr_getR (pc := 136) hV 24 15 dX12_doStep_136 fX12_62 rfl rfl rfl (by decide) (zx_g24 hσ132) (by omega) ?_
        refine zr_sipush (pc := 139) hV 272 dX12_doStep_139 (by decide) ?_
        refine zr_iload_n (pc := 142) hV dX12_doStep_142 rfl rfl ?_
        refine zr_iadd (pc := 143) hV dX12_doStep_143 ?_
        refine zr_iald (pc := 144) hV dX12_doStep_144 rfl (by decide) rfl (by omega) ?_
        have t10 := zx_st hσ132 (272 + (σ 15 265))
        refine zr_aload_n (pc := 145) hV dX12_doStep_145 rfl rfl ?_
        refine zr_getR (pc := 146) hV 24 15 dX12_doStep_146 fX12_62 rfl rfl rfl (by decide) (zx_g24 hσ132) (by omega) ?_
        refine zr_sipush (pc := 149) hV 265 dX12_doStep_149 (by decide) ?_
        refine zr_iald (pc := 152) hV dX12_doStep_152 rfl (by decide) rfl (by omega) ?_
        have t11 := zx_stP hσ132
        have J161 : ∀ (v0_161 : Int), (0 ≤ v0_161 ∧ v0_161 ≤ 1) → V 161 [some (ZR 0), none, some (ZI (σ 15 265)), none, some (ZI r18), some (ZI v0_80), none] [ZI v0_161] 41 σ132 := by
          intro v0_161 hv0_161
          show V 161 [some (ZR 0), none, some (ZI (σ 15 265)), none, some (ZI r18), some (ZI v0_80), none] [ZI v0_161] 41 σ132
          refine zr_istore (pc := 161) hV [some (ZR 0), none, some (ZI (σ 15 265)), none, some (ZI r18), some (ZI v0_80), some (ZI v0_161)] dX12_doStep_161 (by decide) rfl rfl ?_
          refine zr_aload_n (pc := 163) hV dX12_doStep_163 rfl rfl ?_
          refine zr_getR (pc := 164) hV 24 15 dX12_doStep_164 fX12_62 rfl rfl rfl (by decide) (zx_g24 hσ132) (by omega) ?_
          refine zr_sipush (pc := 167) hV 272 dX12_doStep_167 (by decide) ?_
          refine zr_iload_n (pc := 170) hV dX12_doStep_170 rfl rfl ?_
          refine zr_iadd (pc := 171) hV dX12_doStep_171 ?_
          refine zr_aload_n (pc := 172) hV dX12_doStep_172 rfl rfl ?_
          refine zr_getR (pc := 173) hV 24 15 dX12_doStep_173 fX12_62 rfl rfl rfl (by decide) (zx_g24 hσ132) (by omega) ?_
          refine zr_sipush (pc := 176) hV 265 dX12_doStep_176 (by decide) ?_
          refine zr_iald (pc := 179) hV dX12_doStep_179 rfl (by decide) rfl (by omega) ?_
          have t12 := zx_stP hσ132
          refine zr_iast (pc := 180) hV dX12_doStep_180 rfl (by decide) rfl (by omega) (fun σ180 eσ180 => ?_)
          have hσ180 : zx_T σ180 := zx_ua15 eσ180 hσ132 (by omega)
          have hFσ180 : ∀ a i : Int, (¬ (a = 0 ∧ i = 26) ∧ ¬ (a = 0 ∧ i = 27) ∧ ¬ (a = 0 ∧ i = 30) ∧ a ≠ 15 ∧ a ≠ 16 ∧ a ≠ 18) → σ180 a i = σ a i := fun a i h => by rw [eσ180, zq_up_ne (fun q => h.2.2.2.1 q.1)]; exact hFσ132 a i h
          have Mσ180 : zx_M σ180 := zx_M_fr (fun i => by rw [eσ180]; exact zq_up_ne (by omega)) (by rw [eσ180]; exact zq_up_ne (by omega)) (by rw [eσ180]; exact zq_up_ne (by omega)) (by rw [eσ180]; exact zq_up_ne (by omega)) Mσ132
          have Oσ180 : zx_O σ180 := zx_O_fr (fun i => by rw [eσ180]; exact zq_up_ne (by omega)) (fun i => by rw [eσ180]; exact zq_up_ne (by omega)) (fun i => by rw [eσ180]; exact zq_up_ne (by omega)) (by rw [eσ180]; exact zq_up_ne (by omega)) (by rw [eσ180]; exact zq_up_ne (by omega)) Oσ132
          have Kσ180 : zx_K σ180 := zx_K_fr (fun i => by rw [eσ180]; exact zq_up_ne (by omega)) (by rw [eσ180]; exact zq_up_ne (by omega)) Kσ132
          have Wσ180 : zx_W σ180 := zx_W_fr (fun i => by rw [eσ180]; exact zq_up_ne (by omega)) (by rw [eσ180]; exact zq_up_ne (by omega)) (by rw [eσ180]; exact zq_up_ne (by omega)) (by rw [eσ180]; exact zq_up_ne (by omega)) (fun i => by rw [eσ180]; exact zq_up_ne (by omega)) Wσ132
          refine zr_aload_n (pc := 181) hV dX12_doStep_181 rfl rfl ?_
          refine zr_getR (pc := 182) hV 24 15 dX12_doStep_182 fX12_62 rfl rfl rfl (by decide) (zx_g24 hσ180) (by omega) ?_
          refine zr_sipush (pc := 185) hV 266 dX12_doStep_185 (by decide) ?_
          refine zr_dup2 (pc := 188) hV dX12_doStep_188 (fun _ => rfl) (fun _ => rfl) ?_
          refine zr_iald (pc := 189) hV dX12_doStep_189 rfl (by decide) rfl (by omega) ?_
          have t13 := zx_st hσ180 266
          have t14 : σ180 15 266 = σ132 15 266 := by rw [eσ180]; exact zq_up_ne (by omega)
          refine zr_iconst (pc := 190) hV 1 dX12_doStep_190 rfl ?_
          refine zr_iadd (pc := 191) hV dX12_doStep_191 ?_
          refine zr_any (pc := 192) hV (fun y192 hy192 _ => ?_)
          refine zr_iast (pc := 192) hV dX12_doStep_192 rfl (by decide) rfl (by omega) (fun σ192 eσ192 => ?_)
          have hσ192 : zx_T σ192 := zx_ua15 eσ192 hσ180 (by omega)
          have hFσ192 : ∀ a i : Int, (¬ (a = 0 ∧ i = 26) ∧ ¬ (a = 0 ∧ i = 27) ∧ ¬ (a = 0 ∧ i = 30) ∧ a ≠ 15 ∧ a ≠ 16 ∧ a ≠ 18) → σ192 a i = σ a i := fun a i h => by rw [eσ192, zq_up_ne (fun q => h.2.2.2.1 q.1)]; exact hFσ180 a i h
          have Mσ192 : zx_M σ192 := zx_M_fr (fun i => by rw [eσ192]; exact zq_up_ne (by omega)) (by rw [eσ192]; exact zq_up_ne (by omega)) (by rw [eσ192]; exact zq_up_ne (by omega)) (by rw [eσ192]; exact zq_up_ne (by omega)) Mσ180
          have Oσ192 : zx_O σ192 := zx_O_fr (fun i => by rw [eσ192]; exact zq_up_ne (by omega)) (fun i => by rw [eσ192]; exact zq_up_ne (by omega)) (fun i => by rw [eσ192]; exact zq_up_ne (by omega)) (by rw [eσ192]; exact zq_up_ne (by omega)) (by rw [eσ192]; exact zq_up_ne (by omega)) Oσ180
          have Kσ192 : zx_K σ192 := zx_K_fr (fun i => by rw [eσ192]; exact zq_up_ne (by omega)) (by rw [eσ192]; exact zq_up_ne (by omega)) Kσ180
          have Wσ192 : zx_W σ192 := zx_W_fr (fun i => by rw [eσ192]; exact zq_up_ne (by omega)) (by rw [eσ192]; exact zq_up_ne (by omega)) (by rw [eσ192]; exact zq_up_ne (by omega)) (by rw [eσ192]; exact zq_up_ne (by omega)) (fun i => by rw [eσ192]; exact zq_up_ne (by omega)) Wσ180
          refine zr_aload_n (pc := 193) hV dX12_doStep_193 rfl rfl ?_
          refine zr_getR (pc := 194) hV 24 15 dX12_doStep_194 fX12_62 rfl rfl rfl (by decide) (zx_g24 hσ192) (by omega) ?_
          refine zr_sipush (pc := 197) hV 267 dX12_doStep_197 (by decide) ?_
          refine zr_dup2 (pc := 200) hV dX12_doStep_200 (fun _ => rfl) (fun _ => rfl) ?_
          refine zr_iald (pc := 201) hV dX12_doStep_201 rfl (by decide) rfl (by omega) ?_
          have t15 := zx_st hσ192 267
          have t16 : σ192 15 267 = σ180 15 267 := by rw [eσ192]; exact zq_up_ne (by omega)
          have t17 : σ180 15 267 = σ132 15 267 := by rw [eσ180]; exact zq_up_ne (by omega)
          refine zr_aload_n (pc := 202) hV dX12_doStep_202 rfl rfl ?_
          refine zr_getR (pc := 203) hV 10 7 dX12_doStep_203 fX12_38 rfl rfl rfl (by decide) (zx_g10 hσ192) (by omega) ?_
          refine zr_iload (pc := 206) hV dX12_doStep_206 rfl ?_
          refine zr_iald (pc := 208) hV dX12_doStep_208 rfl (by decide) rfl (by omega) ?_
          have t18 := zx_ga7 hσ192 r18
          have t19 : σ192 7 r18 = σ180 7 r18 := by rw [eσ192]; exact zq_up_ne (by omega)
          have t20 : σ180 7 r18 = σ132 7 r18 := by rw [eσ180]; exact zq_up_ne (by omega)
          have t21 : σ132 7 r18 = σ127 7 r18 := hfσ132 _ _ (by omega)
          have t22 : σ127 7 r18 = σ113 7 r18 := by rw [eσ127]; exact zq_up_ne (by omega)
          have t23 : σ113 7 r18 = σ98 7 r18 := by rw [eσ113]; exact zq_up_ne (by omega)
          have t24 : σ98 7 r18 = σ_38 7 r18 := by rw [eσ98]; exact zq_up_ne (by omega)
          have t25 : σ_38 7 r18 = σ 7 r18 := hFσ_38 _ _ (by omega)
          refine zr_iload (pc := 209) hV dX12_doStep_209 rfl ?_
          refine zr_iadd (pc := 211) hV dX12_doStep_211 ?_
          refine zr_any (pc := 212) hV (fun y212 hy212 _ => ?_)
          refine zr_iload (pc := 212) hV dX12_doStep_212 rfl ?_
          have J225 : ∀ (v0_225 : Int), ((-2147483648) ≤ v0_225 ∧ v0_225 ≤ 2147483647) → V 225 [some (ZR 0), none, none, none, none, some (ZI v0_80), some (ZI v0_161)] [ZI v0_225, ZI y212, ZI (σ192 15 267), ZI 267, ZR 15] 41 σ192 := by
            intro v0_225 hv0_225
            show V 225 [some (ZR 0), none, none, none, none, some (ZI v0_80), some (ZI v0_161)] [ZI v0_225, ZI y212, ZI (σ192 15 267), ZI 267, ZR 15] 41 σ192
            refine zr_iadd (pc := 225) hV dX12_doStep_225 ?_
            refine zr_any (pc := 226) hV (fun y226 hy226 _ => ?_)
            refine zr_iadd (pc := 226) hV dX12_doStep_226 ?_
            refine zr_any (pc := 227) hV (fun y227 hy227 _ => ?_)
            refine zr_iast (pc := 227) hV dX12_doStep_227 rfl (by decide) rfl (by omega) (fun σ227 eσ227 => ?_)
            have hσ227 : zx_T σ227 := zx_ua15 eσ227 hσ192 (by omega)
            have hFσ227 : ∀ a i : Int, (¬ (a = 0 ∧ i = 26) ∧ ¬ (a = 0 ∧ i = 27) ∧ ¬ (a = 0 ∧ i = 30) ∧ a ≠ 15 ∧ a ≠ 16 ∧ a ≠ 18) → σ227 a i = σ a i := fun a i h => by rw [eσ227, zq_up_ne (fun q => h.2.2.2.1 q.1)]; exact hFσ192 a i h
            have Mσ227 : zx_M σ227 := zx_M_fr (fun i => by rw [eσ227]; exact zq_up_ne (by omega)) (by rw [eσ227]; exact zq_up_ne (by omega)) (by rw [eσ227]; exact zq_up_ne (by omega)) (by rw [eσ227]; exact zq_up_ne (by omega)) Mσ192
            have Oσ227 : zx_O σ227 := zx_O_fr (fun i => by rw [eσ227]; exact zq_up_ne (by omega)) (fun i => by rw [eσ227]; exact zq_up_ne (by omega)) (fun i => by rw [eσ227]; exact zq_up_ne (by omega)) (by rw [eσ227]; exact zq_up_ne (by omega)) (by rw [eσ227]; exact zq_up_ne (by omega)) Oσ192
            have Kσ227 : zx_K σ227 := zx_K_fr (fun i => by rw [eσ227]; exact zq_up_ne (by omega)) (by rw [eσ227]; exact zq_up_ne (by omega)) Kσ192
            have Wσ227 : zx_W σ227 := zx_W_fr (fun i => by rw [eσ227]; exact zq_up_ne (by omega)) (by rw [eσ227]; exact zq_up_ne (by omega)) (by rw [eσ227]; exact zq_up_ne (by omega)) (by rw [eσ227]; exact zq_up_ne (by omega)) (fun i => by rw [eσ227]; exact zq_up_ne (by omega)) Wσ192
            refine zr_aload_n (pc := 228) hV dX12_doStep_228 rfl rfl ?_
            refine zr_getR (pc := 229) hV 24 15 dX12_doStep_229 fX12_62 rfl rfl rfl (by decide) (zx_g24 hσ227) (by omega) ?_
            refine zr_sipush (pc := 232) hV 268 dX12_doStep_232 (by decide) ?_
            refine zr_dup2 (pc := 235) hV dX12_doStep_235 (fun _ => rfl) (fun _ => rfl) ?_
            refine zr_iald (pc := 236) hV dX12_doStep_236 rfl (by decide) rfl (by omega) ?_
            have t26 := zx_st hσ227 268
            have t27 : σ227 15 268 = σ192 15 268 := by rw [eσ227]; exact zq_up_ne (by omega)
            have t28 : σ192 15 268 = σ180 15 268 := by rw [eσ192]; exact zq_up_ne (by omega)
            have t29 : σ180 15 268 = σ132 15 268 := by rw [eσ180]; exact zq_up_ne (by omega)
            refine zr_iload (pc := 237) hV dX12_doStep_237 rfl ?_
            refine zr_iadd (pc := 239) hV dX12_doStep_239 ?_
            refine zr_any (pc := 240) hV (fun y240 hy240 _ => ?_)
            refine zr_iast (pc := 240) hV dX12_doStep_240 rfl (by decide) rfl (by omega) (fun σ240 eσ240 => ?_)
            have hσ240 : zx_T σ240 := zx_ua15 eσ240 hσ227 (by omega)
            have hFσ240 : ∀ a i : Int, (¬ (a = 0 ∧ i = 26) ∧ ¬ (a = 0 ∧ i = 27) ∧ ¬ (a = 0 ∧ i = 30) ∧ a ≠ 15 ∧ a ≠ 16 ∧ a ≠ 18) → σ240 a i = σ a i := fun a i h => by rw [eσ240, zq_up_ne (fun q => h.2.2.2.1 q.1)]; exact hFσ227 a i h
            have Mσ240 : zx_M σ240 := zx_M_fr (fun i => by rw [eσ240]; exact zq_up_ne (by omega)) (by rw [eσ240]; exact zq_up_ne (by omega)) (by rw [eσ240]; exact zq_up_ne (by omega)) (by rw [eσ240]; exact zq_up_ne (by omega)) Mσ227
            have Oσ240 : zx_O σ240 := zx_O_fr (fun i => by rw [eσ240]; exact zq_up_ne (by omega)) (fun i => by rw [eσ240]; exact zq_up_ne (by omega)) (fun i => by rw [eσ240]; exact zq_up_ne (by omega)) (by rw [eσ240]; exact zq_up_ne (by omega)) (by rw [eσ240]; exact zq_up_ne (by omega)) Oσ227
            have Kσ240 : zx_K σ240 := zx_K_fr (fun i => by rw [eσ240]; exact zq_up_ne (by omega)) (by rw [eσ240]; exact zq_up_ne (by omega)) Kσ227
            have Wσ240 : zx_W σ240 := zx_W_fr (fun i => by rw [eσ240]; exact zq_up_ne (by omega)) (by rw [eσ240]; exact zq_up_ne (by omega)) (by rw [eσ240]; exact zq_up_ne (by omega)) (by rw [eσ240]; exact zq_up_ne (by omega)) (fun i => by rw [eσ240]; exact zq_up_ne (by omega)) Wσ227
            refine zr_aload_n (pc := 241) hV dX12_doStep_241 rfl rfl ?_
            refine zr_getR (pc := 242) hV 24 15 dX12_doStep_242 fX12_62 rfl rfl rfl (by decide) (zx_g24 hσ240) (by omega) ?_
            refine zr_sipush (pc := 245) hV 269 dX12_doStep_245 (by decide) ?_
            refine zr_dup2 (pc := 248) hV dX12_doStep_248 (fun _ => rfl) (fun _ => rfl) ?_
            refine zr_iald (pc := 249) hV dX12_doStep_249 rfl (by decide) rfl (by omega) ?_
            have t30 := zx_st hσ240 269
            have t31 : σ240 15 269 = σ227 15 269 := by rw [eσ240]; exact zq_up_ne (by omega)
            have t32 : σ227 15 269 = σ192 15 269 := by rw [eσ227]; exact zq_up_ne (by omega)
            have t33 : σ192 15 269 = σ180 15 269 := by rw [eσ192]; exact zq_up_ne (by omega)
            have t34 : σ180 15 269 = σ132 15 269 := by rw [eσ180]; exact zq_up_ne (by omega)
            refine zr_iload (pc := 250) hV dX12_doStep_250 rfl ?_
            refine zr_if_eq (pc := 252) hV 259 dX12_doStep_252 (by decide) (by omega) (fun c35 => ?_) (fun c35 => ?_)
            · show V 259 [some (ZR 0), none, none, none, none, some (ZI v0_80), some (ZI v0_161)] [ZI (σ240 15 269), ZI 269, ZR 15] 41 σ240
              refine zr_iconst (pc := 259) hV 0 dX12_doStep_259 rfl ?_
              show V 260 [some (ZR 0), none, none, none, none, some (ZI v0_80), some (ZI v0_161)] [ZI 0, ZI (σ240 15 269), ZI 269, ZR 15] 41 σ240
              refine zr_iadd (pc := 260) hV dX12_doStep_260 ?_
              refine zr_iast (pc := 261) hV dX12_doStep_261 rfl (by decide) rfl (by omega) (fun σ261 eσ261 => ?_)
              have hσ261 : zx_T σ261 := zx_ua15 eσ261 hσ240 (by omega)
              have hFσ261 : ∀ a i : Int, (¬ (a = 0 ∧ i = 26) ∧ ¬ (a = 0 ∧ i = 27) ∧ ¬ (a = 0 ∧ i = 30) ∧ a ≠ 15 ∧ a ≠ 16 ∧ a ≠ 18) → σ261 a i = σ a i := fun a i h => by rw [eσ261, zq_up_ne (fun q => h.2.2.2.1 q.1)]; exact hFσ240 a i h
              have Mσ261 : zx_M σ261 := zx_M_fr (fun i => by rw [eσ261]; exact zq_up_ne (by omega)) (by rw [eσ261]; exact zq_up_ne (by omega)) (by rw [eσ261]; exact zq_up_ne (by omega)) (by rw [eσ261]; exact zq_up_ne (by omega)) Mσ240
              have Oσ261 : zx_O σ261 := zx_O_fr (fun i => by rw [eσ261]; exact zq_up_ne (by omega)) (fun i => by rw [eσ261]; exact zq_up_ne (by omega)) (fun i => by rw [eσ261]; exact zq_up_ne (by omega)) (by rw [eσ261]; exact zq_up_ne (by omega)) (by rw [eσ261]; exact zq_up_ne (by omega)) Oσ240
              have Kσ261 : zx_K σ261 := zx_K_fr (fun i => by rw [eσ261]; exact zq_up_ne (by omega)) (by rw [eσ261]; exact zq_up_ne (by omega)) Kσ240
              have Wσ261 : zx_W σ261 := zx_W_fr (fun i => by rw [eσ261]; exact zq_up_ne (by omega)) (by rw [eσ261]; exact zq_up_ne (by omega)) (by rw [eσ261]; exact zq_up_ne (by omega)) (by rw [eσ261]; exact zq_up_ne (by omega)) (fun i => by rw [eσ261]; exact zq_up_ne (by omega)) Wσ240
              refine zr_iconst (pc := 262) hV 1 dX12_doStep_262 rfl ?_
              exact zr_zret (pc := 263) hV dX12_doStep_263 rfl rfl (by omega) ⟨_, rfl, ⟨by decide, by decide⟩, hσ261, hFσ261, (by omega), Mσ261, Oσ261, Kσ261, Wσ261⟩
            · show V 255 [some (ZR 0), none, none, none, none, some (ZI v0_80), some (ZI v0_161)] [ZI (σ240 15 269), ZI 269, ZR 15] 41 σ240
              refine zr_iconst (pc := 255) hV 1 dX12_doStep_255 rfl ?_
              refine zr_goto (pc := 256) hV 260 dX12_doStep_256 (by decide) ?_
              show V 260 [some (ZR 0), none, none, none, none, some (ZI v0_80), some (ZI v0_161)] [ZI 1, ZI (σ240 15 269), ZI 269, ZR 15] 41 σ240
              refine zr_iadd (pc := 260) hV dX12_doStep_260 ?_
              refine zr_any (pc := 261) hV (fun y261 hy261 _ => ?_)
              refine zr_iast (pc := 261) hV dX12_doStep_261 rfl (by decide) rfl (by omega) (fun σ261 eσ261 => ?_)
              have hσ261 : zx_T σ261 := zx_ua15 eσ261 hσ240 (by omega)
              have hFσ261 : ∀ a i : Int, (¬ (a = 0 ∧ i = 26) ∧ ¬ (a = 0 ∧ i = 27) ∧ ¬ (a = 0 ∧ i = 30) ∧ a ≠ 15 ∧ a ≠ 16 ∧ a ≠ 18) → σ261 a i = σ a i := fun a i h => by rw [eσ261, zq_up_ne (fun q => h.2.2.2.1 q.1)]; exact hFσ240 a i h
              have Mσ261 : zx_M σ261 := zx_M_fr (fun i => by rw [eσ261]; exact zq_up_ne (by omega)) (by rw [eσ261]; exact zq_up_ne (by omega)) (by rw [eσ261]; exact zq_up_ne (by omega)) (by rw [eσ261]; exact zq_up_ne (by omega)) Mσ240
              have Oσ261 : zx_O σ261 := zx_O_fr (fun i => by rw [eσ261]; exact zq_up_ne (by omega)) (fun i => by rw [eσ261]; exact zq_up_ne (by omega)) (fun i => by rw [eσ261]; exact zq_up_ne (by omega)) (by rw [eσ261]; exact zq_up_ne (by omega)) (by rw [eσ261]; exact zq_up_ne (by omega)) Oσ240
              have Kσ261 : zx_K σ261 := zx_K_fr (fun i => by rw [eσ261]; exact zq_up_ne (by omega)) (by rw [eσ261]; exact zq_up_ne (by omega)) Kσ240
              have Wσ261 : zx_W σ261 := zx_W_fr (fun i => by rw [eσ261]; exact zq_up_ne (by omega)) (by rw [eσ261]; exact zq_up_ne (by omega)) (by rw [eσ261]; exact zq_up_ne (by omega)) (by rw [eσ261]; exact zq_up_ne (by omega)) (fun i => by rw [eσ261]; exact zq_up_ne (by omega)) Wσ240
              refine zr_iconst (pc := 262) hV 1 dX12_doStep_262 rfl ?_
              exact zr_zret (pc := 263) hV dX12_doStep_263 rfl rfl (by omega) ⟨_, rfl, ⟨by decide, by decide⟩, hσ261, hFσ261, (by omega), Mσ261, Oσ261, Kσ261, Wσ261⟩
          refine zr_if_eq (pc := 214) hV 224 dX12_doStep_214 (by decide) (by omega) (fun c36 => ?_) (fun c36 => ?_)
          · show V 224 [some (ZR 0), none, some (ZI (σ 15 265)), none, some (ZI r18), some (ZI v0_80), some (ZI v0_161)] [ZI y212, ZI (σ192 15 267), ZI 267, ZR 15] 41 σ192
            refine zr_iconst (pc := 224) hV 0 dX12_doStep_224 rfl ?_
            refine zr_sub (pc := 225) hV [some (ZR 0), none, none, none, none, some (ZI v0_80), some (ZI v0_161)] (⟨rfl, rfl, rfl, trivial⟩) ?_
            exact J225 0 (by omega)
          · show V 217 [some (ZR 0), none, some (ZI (σ 15 265)), none, some (ZI r18), some (ZI v0_80), some (ZI v0_161)] [ZI y212, ZI (σ192 15 267), ZI 267, ZR 15] 41 σ192
            refine zr_aload_n (pc := 217) hV dX12_doStep_217 rfl rfl ?_
            refine zr_getI (pc := 218) hV 29 dX12_doStep_218 fX12_72 rfl rfl rfl (by decide) ?_
            have t37 := zx_g29 hσ192
            have t38 : σ192 0 29 = σ180 0 29 := by rw [eσ192]; exact zq_up_ne (by omega)
            have t39 : σ180 0 29 = σ132 0 29 := by rw [eσ180]; exact zq_up_ne (by omega)
            have t40 : σ132 0 29 = σ127 0 29 := hfσ132 _ _ (by omega)
            have t41 : σ127 0 29 = σ113 0 29 := by rw [eσ127]; exact zq_up_ne (by omega)
            have t42 : σ113 0 29 = σ98 0 29 := by rw [eσ113]; exact zq_up_ne (by omega)
            have t43 : σ98 0 29 = σ_38 0 29 := by rw [eσ98]; exact zq_up_ne (by omega)
            have t44 : σ_38 0 29 = σ 0 29 := hFσ_38 _ _ (by omega)
            refine zr_goto (pc := 221) hV 225 dX12_doStep_221 (by decide) ?_
            refine zr_sub (pc := 225) hV [some (ZR 0), none, none, none, none, some (ZI v0_80), some (ZI v0_161)] (⟨rfl, rfl, rfl, trivial⟩) ?_
            exact J225 (σ192 0 29) (by omega)
        refine zr_icmp_eq (pc := 153) hV 160 dX12_doStep_153 (by decide) (by omega) (by omega) (fun c45 => ?_) (fun c45 => ?_)
        · show V 160 [some (ZR 0), none, some (ZI (σ 15 265)), some (ZI (σ 14 (σ 15 265))), some (ZI r18), some (ZI v0_80), none] [] 41 σ132
          refine zr_iconst (pc := 160) hV 0 dX12_doStep_160 rfl ?_
          refine zr_sub (pc := 161) hV [some (ZR 0), none, some (ZI (σ 15 265)), none, some (ZI r18), some (ZI v0_80), none] (⟨rfl, rfl, rfl, rfl, trivial⟩) ?_
          exact J161 0 (by omega)
        · show V 156 [some (ZR 0), none, some (ZI (σ 15 265)), some (ZI (σ 14 (σ 15 265))), some (ZI r18), some (ZI v0_80), none] [] 41 σ132
          refine zr_iconst (pc := 156) hV 1 dX12_doStep_156 rfl ?_
          refine zr_goto (pc := 157) hV 161 dX12_doStep_157 (by decide) ?_
          refine zr_sub (pc := 161) hV [some (ZR 0), none, some (ZI (σ 15 265)), none, some (ZI r18), some (ZI v0_80), none] (⟨rfl, rfl, rfl, rfl, trivial⟩) ?_
          exact J161 1 (by omega)
      have J79 : V 79 [some (ZR 0), none, some (ZI (σ 15 265)), some (ZI (σ 14 (σ 15 265))), some (ZI r18), none, none] [] 41 σ_38 := by
        show V 79 [some (ZR 0), none, some (ZI (σ 15 265)), some (ZI (σ 14 (σ 15 265))), some (ZI r18), none, none] [] 41 σ_38
        refine zr_iconst (pc := 79) hV 0 dX12_doStep_79 rfl ?_
        exact J80 0 (by omega)
      refine zr_if_le (pc := 46) hV 79 dX12_doStep_46 (by decide) (by omega) (fun c46 => ?_) (fun c46 => ?_)
      · exact J79
      · show V 49 [some (ZR 0), none, some (ZI (σ 15 265)), some (ZI (σ 14 (σ 15 265))), some (ZI r18), none, none] [] 41 σ_38
        refine zr_aload_n (pc := 49) hV dX12_doStep_49 rfl rfl ?_
        refine zr_getR (pc := 50) hV 24 15 dX12_doStep_50 fX12_62 rfl rfl rfl (by decide) (zx_g24 hσ_38) (by omega) ?_
        refine zr_sipush (pc := 53) hV 271 dX12_doStep_53 (by decide) ?_
        refine zr_iald (pc := 56) hV dX12_doStep_56 rfl (by decide) rfl (by omega) ?_
        have t47 := zx_st hσ_38 271
        refine zr_aload_n (pc := 57) hV dX12_doStep_57 rfl rfl ?_
        refine zr_iload (pc := 58) hV dX12_doStep_58 rfl ?_
        refine zr_iload_n (pc := 60) hV dX12_doStep_60 rfl rfl ?_
        refine zr_callVp (pc := 61) hV [ZI r18, ZI (σ 14 (σ 15 265))] (st := [ZI (σ_38 15 271)]) (c_X12_usesOf (σ := σ_38) hσ_38 r18 (σ 14 (σ 15 265)) (by omega) (by omega) (zx_A_fr (fun i => hFσ_38 5 i (by omega)) (fun i => hFσ_38 6 i (by omega)) (Oσ r18 (by omega) (by omega)).1) (zx_B_fr (fun i => hFσ_38 2 i (by omega)) (hFσ_38 0 2 (by omega)) (Oσ r18 (by omega) (by omega)).2)) dX12_doStep_61 mX12_371 rfl (by decide) (by decide) (Nat.le_of_ble_eq_true rfl) (Nat.le_refl _) (fun r61 hr61 pr61 => ?_)
        refine zr_iand (pc := 64) hV dX12_doStep_64 ?_
        have t48 := zq_and_in (σ_38 15 271) r61
        refine zr_if_eq (pc := 65) hV 79 dX12_doStep_65 (by decide) (by omega) (fun c49 => ?_) (fun c49 => ?_)
        · exact J79
        · show V 68 [some (ZR 0), none, some (ZI (σ 15 265)), some (ZI (σ 14 (σ 15 265))), some (ZI r18), none, none] [] 41 σ_38
          refine zr_aload_n (pc := 68) hV dX12_doStep_68 rfl rfl ?_
          refine zr_getR (pc := 69) hV 24 15 dX12_doStep_69 fX12_62 rfl rfl rfl (by decide) (zx_g24 hσ_38) (by omega) ?_
          refine zr_sipush (pc := 72) hV 270 dX12_doStep_72 (by decide) ?_
          refine zr_iald (pc := 75) hV dX12_doStep_75 rfl (by decide) rfl (by omega) ?_
          have t50 := zx_st hσ_38 270
          refine zr_goto (pc := 76) hV 80 dX12_doStep_76 (by decide) ?_
          exact J80 (σ_38 15 270) (by omega)
    refine zr_if_eq (pc := 31) hV 38 dX12_doStep_31 (by decide) (by omega) (fun c51 => ?_) (fun c51 => ?_)
    · refine zr_sub (pc := 38) hV [some (ZR 0), none, some (ZI (σ 15 265)), some (ZI (σ 14 (σ 15 265))), some (ZI r18), none, none] (⟨rfl, rfl, rfl, rfl, trivial⟩) ?_
      exact J38 σ18 hσ18 hFσ18 Mσ18 Oσ18 Kσ18 Wσ18
    · show V 34 [some (ZR 0), some (ZI keeps), some (ZI (σ 15 265)), some (ZI (σ 14 (σ 15 265))), some (ZI r18), none, none] [] 41 σ18
      refine zr_aload_n (pc := 34) hV dX12_doStep_34 rfl rfl ?_
      refine zr_callVv (pc := 35) hV [] (st := []) (c_X12_keepPast (σ := σ18) hσ18 ) dX12_doStep_35 mX12_368 rfl (by decide) (by decide) (Nat.le_of_ble_eq_true rfl) (Nat.le_refl _) (fun σ35 pσ35 => ?_)
      obtain ⟨hσ35, hfσ35, pσ35⟩ := pσ35
      have Mσ35 : zx_M σ35 := zx_M_fr (fun i => hfσ35 18 i (by omega)) (hfσ35 0 30 (by omega)) (hfσ35 0 2 (by omega)) (hfσ35 0 3 (by omega)) Mσ18
      have Oσ35 : zx_O σ35 := zx_O_fr (fun i => hfσ35 2 i (by omega)) (fun i => hfσ35 5 i (by omega)) (fun i => hfσ35 6 i (by omega)) (hfσ35 0 2 (by omega)) (hfσ35 0 3 (by omega)) Oσ18
      have Kσ35 : zx_K σ35 := zx_K_fr (fun i => hfσ35 14 i (by omega)) (hfσ35 0 2 (by omega)) Kσ18
      have Wσ35 : zx_W σ35 := zx_W_fr (fun i => hfσ35 18 i (by omega)) (hfσ35 0 30 (by omega)) (hfσ35 0 2 (by omega)) (hfσ35 0 3 (by omega)) (fun i => hfσ35 2 i (by omega)) Wσ18
      have hFσ35 : ∀ a i : Int, (¬ (a = 0 ∧ i = 26) ∧ ¬ (a = 0 ∧ i = 27) ∧ ¬ (a = 0 ∧ i = 30) ∧ a ≠ 15 ∧ a ≠ 16 ∧ a ≠ 18) → σ35 a i = σ a i := fun a i h => (hfσ35 a i ⟨h.1, h.2.1, h.2.2.2.2.1⟩).trans (hFσ18 a i h)
      refine zr_sub (pc := 38) hV [some (ZR 0), none, some (ZI (σ 15 265)), some (ZI (σ 14 (σ 15 265))), some (ZI r18), none, none] (⟨rfl, rfl, rfl, rfl, trivial⟩) ?_
      exact J38 σ35 hσ35 hFσ35 Mσ35 Oσ35 Kσ35 Wσ35
  · show V 28 [some (ZR 0), some (ZI keeps), some (ZI (σ 15 265)), some (ZI (σ 14 (σ 15 265))), some (ZI r18), none, none] [] 41 σ18
    refine zr_iconst (pc := 28) hV 0 dX12_doStep_28 rfl ?_
    exact zr_zret (pc := 29) hV dX12_doStep_29 rfl rfl (by omega) ⟨_, rfl, ⟨by decide, by decide⟩, hσ18, hFσ18, (by omega), Mσ18, Oσ18, Kσ18, Wσ18⟩
set_option maxHeartbeats 800000 in
theorem c_X12_runW {σ : zq_S} (hσ : zx_T σ) (n : Int) (q0 : zq_in n) (Mσ : zx_M σ) (Oσ : zx_O σ) (Kσ : zx_K σ) (Wσ : zx_W σ) : zq_C zx_w yX12_run cX12_run 3 (some .int) 5 127 41 41 [ZR 0, ZI n] σ (zq_pi (fun r τ => zx_T τ ∧ (∀ a i : Int, (¬ (a = 0 ∧ i = 26) ∧ ¬ (a = 0 ∧ i = 27) ∧ ¬ (a = 0 ∧ i = 30) ∧ a ≠ 15 ∧ a ≠ 16 ∧ a ≠ 18) → τ a i = σ a i) ∧ (True) ∧ zx_M τ ∧ zx_O τ ∧ zx_K τ ∧ zx_W τ)) := by
  refine zq_C_of (by decide) (Nat.le_refl _) (Nat.le_of_ble_eq_true rfl) [some (ZR 0), some (ZI n), none] rfl (fun V hV => ?_)
  show V 0 [some (ZR 0), some (ZI n), none] [] 41 σ
  refine zr_iload_n (pc := 0) hV dX12_run_0 rfl rfl ?_
  refine zr_i2l (pc := 1) hV dX12_run_1 (by omega) ?_
  refine zr_lconst (pc := 2) hV 1 dX12_run_2 (by decide) ?_
  refine zr_ldc2 (pc := 3) (v := 2000) hV 2000 dX12_run_3 kX12_380 (by decide) ?_
  refine zr_callSp (pc := 6) hV [ZL n, ZL 1, ZL 2000] (st := []) (c_X12_in (σ := σ) n 1 2000 (by omega) (by omega) (by omega)) dX12_run_6 mX12_170 (by decide) (Nat.le_of_ble_eq_true rfl) (Nat.le_refl _) (fun r6 hr6 pr6 => ?_)
  refine zr_if_ne (pc := 9) hV 14 dX12_run_9 (by decide) (by omega) (fun c1 => ?_) (fun c1 => ?_)
  · show V 14 [some (ZR 0), some (ZI n), none] [] 41 σ
    refine zr_iconst (pc := 14) hV 0 dX12_run_14 rfl ?_
    refine zr_istore_n (pc := 15) hV [some (ZR 0), some (ZI n), some (ZI 0)] dX12_run_15 rfl (by decide) rfl rfl ?_
    have L16 : ∀ (fuel : Nat) (x2_16 : Int) (σ_16 : zq_S), (0 ≤ x2_16 ∧ x2_16 ≤ 2000) → (zx_T σ_16) → (∀ a i : Int, (¬ (a = 0 ∧ i = 26) ∧ ¬ (a = 0 ∧ i = 27) ∧ ¬ (a = 0 ∧ i = 30) ∧ a ≠ 15 ∧ a ≠ 16 ∧ a ≠ 18) → σ_16 a i = σ a i) → (zx_M σ_16) → (zx_O σ_16) → (zx_K σ_16) → (zx_W σ_16) → 2000 - x2_16 < (fuel : Int) → V 16 [some (ZR 0), some (ZI n), some (ZI x2_16)] [] 41 σ_16 := by
      intro fuel
      induction fuel with
      | zero =>
        intro x2_16 σ_16 hx2_16 hσ_16 hFσ_16 Mσ_16 Oσ_16 Kσ_16 Wσ_16 hm16
        exfalso; omega
      | succ fuel ih =>
        intro x2_16 σ_16 hx2_16 hσ_16 hFσ_16 Mσ_16 Oσ_16 Kσ_16 Wσ_16 hm16
        have ih16 := ih
        show V 16 [some (ZR 0), some (ZI n), some (ZI x2_16)] [] 41 σ_16
        refine zr_iload_n (pc := 16) hV dX12_run_16 rfl rfl ?_
        refine zr_iload_n (pc := 17) hV dX12_run_17 rfl rfl ?_
        refine zr_icmp_ge (pc := 18) hV 35 dX12_run_18 (by decide) (by omega) (by omega) (fun c2 => ?_) (fun c2 => ?_)
        · show V 35 [some (ZR 0), some (ZI n), some (ZI x2_16)] [] 41 σ_16
          refine zr_iload_n (pc := 35) hV dX12_run_35 rfl rfl ?_
          refine zr_if_ne (pc := 36) hV 44 dX12_run_36 (by decide) (by omega) (fun c3 => ?_) (fun c3 => ?_)
          · show V 44 [some (ZR 0), some (ZI n), some (ZI x2_16)] [] 41 σ_16
            refine zr_iload_n (pc := 44) hV dX12_run_44 rfl rfl ?_
            show V 45 [some (ZR 0), some (ZI n), some (ZI x2_16)] [ZI x2_16] 41 σ_16
            exact zr_iret (pc := 45) hV dX12_run_45 rfl rfl ⟨_, rfl, (by omega), hσ_16, hFσ_16, trivial, Mσ_16, Oσ_16, Kσ_16, Wσ_16⟩
          · exfalso; omega
        · show V 21 [some (ZR 0), some (ZI n), some (ZI x2_16)] [] 41 σ_16
          refine zr_aload_n (pc := 21) hV dX12_run_21 rfl rfl ?_
          refine zr_iconst (pc := 22) hV 1 dX12_run_22 rfl ?_
          refine zr_callVi (pc := 23) hV [ZI 1] (st := []) (c_X12_doStepW (σ := σ_16) hσ_16 1 (by omega) Mσ_16 Oσ_16 Kσ_16 Wσ_16) dX12_run_23 mX12_382 rfl (by decide) (by decide) (Nat.le_of_ble_eq_true rfl) (Nat.le_refl _) (fun r23 σ23 hr23 pσ23 => ?_)
          obtain ⟨hσ23, hfσ23, pσ23, Mσ23, Oσ23, Kσ23, Wσ23⟩ := pσ23
          have hFσ23 : ∀ a i : Int, (¬ (a = 0 ∧ i = 26) ∧ ¬ (a = 0 ∧ i = 27) ∧ ¬ (a = 0 ∧ i = 30) ∧ a ≠ 15 ∧ a ≠ 16 ∧ a ≠ 18) → σ23 a i = σ a i := fun a i h => (hfσ23 a i ⟨h.1, h.2.1, h.2.2.1, h.2.2.2.1, h.2.2.2.2.1, h.2.2.2.2.2⟩).trans (hFσ_16 a i h)
          refine zr_if_eq (pc := 26) hV 35 dX12_run_26 (by decide) (by omega) (fun c4 => ?_) (fun c4 => ?_)
          · show V 35 [some (ZR 0), some (ZI n), some (ZI x2_16)] [] 41 σ23
            refine zr_iload_n (pc := 35) hV dX12_run_35 rfl rfl ?_
            refine zr_if_ne (pc := 36) hV 44 dX12_run_36 (by decide) (by omega) (fun c5 => ?_) (fun c5 => ?_)
            · show V 44 [some (ZR 0), some (ZI n), some (ZI x2_16)] [] 41 σ23
              refine zr_iload_n (pc := 44) hV dX12_run_44 rfl rfl ?_
              show V 45 [some (ZR 0), some (ZI n), some (ZI x2_16)] [ZI x2_16] 41 σ23
              exact zr_iret (pc := 45) hV dX12_run_45 rfl rfl ⟨_, rfl, (by omega), hσ23, hFσ23, trivial, Mσ23, Oσ23, Kσ23, Wσ23⟩
            · show V 39 [some (ZR 0), some (ZI n), some (ZI x2_16)] [] 41 σ23
              refine zr_bipush (pc := 39) hV (-5) dX12_run_39 (by decide) ?_
              refine zr_goto (pc := 41) hV 45 dX12_run_41 (by decide) ?_
              show V 45 [some (ZR 0), some (ZI n), some (ZI x2_16)] [ZI (-5)] 41 σ23
              exact zr_iret (pc := 45) hV dX12_run_45 rfl rfl ⟨_, rfl, ⟨by decide, by decide⟩, hσ23, hFσ23, trivial, Mσ23, Oσ23, Kσ23, Wσ23⟩
          · show V 29 [some (ZR 0), some (ZI n), some (ZI x2_16)] [] 41 σ23
            refine zr_iinc (pc := 29) hV [some (ZR 0), some (ZI n), some (ZI (x2_16 + 1))] (x2_16 + 1) dX12_run_29 rfl rfl (by decide) rfl rfl ?_
            refine zr_goto (pc := 32) hV 16 dX12_run_32 (by decide) ?_
            exact ih16 (x2_16 + 1) σ23 (by omega) hσ23 hFσ23 Mσ23 Oσ23 Kσ23 Wσ23 (by omega)
    exact L16 (2000 - (0 : Int) + 1 : Int).toNat 0 σ (by omega) hσ (fun a i _ => rfl) Mσ Oσ Kσ Wσ (by omega)
  · show V 12 [some (ZR 0), some (ZI n), none] [] 41 σ
    refine zr_iconst (pc := 12) hV (-1) dX12_run_12 rfl ?_
    exact zr_iret (pc := 13) hV dX12_run_13 rfl rfl ⟨_, rfl, ⟨by decide, by decide⟩, hσ, (fun a i _ => rfl), trivial, Mσ, Oσ, Kσ, Wσ⟩
set_option maxHeartbeats 800000 in
theorem c_X12_logW {σ : zq_S} (hσ : zx_T σ) (sheet lane from_ n : Int) (q0 : zq_in sheet) (q1 : zq_in lane) (q2 : zq_in from_) (q3 : zq_in n) (Mσ : zx_M σ) (Oσ : zx_O σ) (Kσ : zx_K σ) (Wσ : zx_W σ) : zq_C zx_w yX12_log cX12_log 9 (some .int) 5 127 41 41 [ZR 0, ZI sheet, ZI lane, ZI from_, ZI n] σ (zq_pi (fun r τ => zx_T τ ∧ (∀ a i : Int, (¬ (a = 0 ∧ i = 26) ∧ ¬ (a = 0 ∧ i = 27) ∧ ¬ (a = 0 ∧ i = 30) ∧ a ≠ 15 ∧ a ≠ 16 ∧ a ≠ 17 ∧ a ≠ 18) → τ a i = σ a i) ∧ (True) ∧ zx_M τ ∧ zx_O τ ∧ zx_K τ ∧ zx_W τ)) := by
  refine zq_C_of (by decide) (Nat.le_refl _) (Nat.le_of_ble_eq_true rfl) [some (ZR 0), some (ZI sheet), some (ZI lane), some (ZI from_), some (ZI n), none, none, none, none] rfl (fun V hV => ?_)
  show V 0 [some (ZR 0), some (ZI sheet), some (ZI lane), some (ZI from_), some (ZI n), none, none, none, none] [] 41 σ
  refine zr_iload_n (pc := 0) hV dX12_log_0 rfl rfl ?_
  refine zr_iload_n (pc := 1) hV dX12_log_1 rfl rfl ?_
  refine zr_callSp (pc := 2) hV [ZI sheet, ZI lane] (st := []) (c_X12_isSheet (σ := σ) sheet lane (by omega) (by omega)) dX12_log_2 mX12_480 (by decide) (Nat.le_of_ble_eq_true rfl) (Nat.le_refl _) (fun r2 hr2 pr2 => ?_)
  refine zr_if_eq (pc := 5) hV 21 dX12_log_5 (by decide) (by omega) (fun c1 => ?_) (fun c1 => ?_)
  · show V 21 [some (ZR 0), some (ZI sheet), some (ZI lane), some (ZI from_), some (ZI n), none, none, none, none] [] 41 σ
    refine zr_iconst (pc := 21) hV (-1) dX12_log_21 rfl ?_
    exact zr_iret (pc := 22) hV dX12_log_22 rfl rfl ⟨_, rfl, ⟨by decide, by decide⟩, hσ, (fun a i _ => rfl), trivial, Mσ, Oσ, Kσ, Wσ⟩
  · show V 8 [some (ZR 0), some (ZI sheet), some (ZI lane), some (ZI from_), some (ZI n), none, none, none, none] [] 41 σ
    refine zr_iload (pc := 8) hV dX12_log_8 rfl ?_
    refine zr_i2l (pc := 10) hV dX12_log_10 (by omega) ?_
    refine zr_lconst (pc := 11) hV 0 dX12_log_11 (by decide) ?_
    refine zr_ldc2 (pc := 12) (v := 10) hV 10 dX12_log_12 kX12_483 (by decide) ?_
    refine zr_callSp (pc := 15) hV [ZL n, ZL 0, ZL 10] (st := []) (c_X12_in (σ := σ) n 0 10 (by omega) (by omega) (by omega)) dX12_log_15 mX12_170 (by decide) (Nat.le_of_ble_eq_true rfl) (Nat.le_refl _) (fun r15 hr15 pr15 => ?_)
    refine zr_if_ne (pc := 18) hV 23 dX12_log_18 (by decide) (by omega) (fun c2 => ?_) (fun c2 => ?_)
    · show V 23 [some (ZR 0), some (ZI sheet), some (ZI lane), some (ZI from_), some (ZI n), none, none, none, none] [] 41 σ
      refine zr_aload_n (pc := 23) hV dX12_log_23 rfl rfl ?_
      refine zr_iload_n (pc := 24) hV dX12_log_24 rfl rfl ?_
      refine zr_iload_n (pc := 25) hV dX12_log_25 rfl rfl ?_
      refine zr_iload_n (pc := 26) hV dX12_log_26 rfl rfl ?_
      refine zr_iconst (pc := 27) hV 3 dX12_log_27 rfl ?_
      refine zr_iload (pc := 28) hV dX12_log_28 rfl ?_
      refine zr_imul (pc := 30) hV dX12_log_30 ?_
      refine zr_callVp (pc := 31) hV [ZI sheet, ZI lane, ZI from_, ZI (3 * n)] (st := []) (c_X12_against (σ := σ) hσ sheet lane from_ (3 * n) (by omega) (by omega) (by omega) (by omega)) dX12_log_31 mX12_485 rfl (by decide) (by decide) (Nat.le_of_ble_eq_true rfl) (Nat.le_refl _) (fun r31 hr31 pr31 => ?_)
      refine zr_istore (pc := 34) hV [some (ZR 0), some (ZI sheet), some (ZI lane), some (ZI from_), some (ZI n), some (ZI r31), none, none, none] dX12_log_34 (by decide) rfl rfl ?_
      refine zr_iload (pc := 36) hV dX12_log_36 rfl ?_
      refine zr_if_ge (pc := 38) hV 44 dX12_log_38 (by decide) (by omega) (fun c3 => ?_) (fun c3 => ?_)
      · show V 44 [some (ZR 0), some (ZI sheet), some (ZI lane), some (ZI from_), some (ZI n), some (ZI r31), none, none, none] [] 41 σ
        refine zr_iconst (pc := 44) hV 0 dX12_log_44 rfl ?_
        refine zr_istore (pc := 45) hV [some (ZR 0), some (ZI sheet), some (ZI lane), some (ZI from_), some (ZI n), some (ZI r31), some (ZI 0), none, none] dX12_log_45 (by decide) rfl rfl ?_
        have L47 : ∀ (fuel : Nat) (x6_47 : Int) (σ_47 : zq_S), (0 ≤ x6_47 ∧ x6_47 ≤ 336) → (zx_T σ_47) → (∀ a i : Int, (¬ (a = 0 ∧ i = 26) ∧ ¬ (a = 0 ∧ i = 27) ∧ ¬ (a = 0 ∧ i = 30) ∧ a ≠ 15 ∧ a ≠ 16 ∧ a ≠ 17 ∧ a ≠ 18) → σ_47 a i = σ a i) → (zx_M σ_47) → (zx_O σ_47) → (zx_K σ_47) → (zx_W σ_47) → 336 - x6_47 < (fuel : Int) → V 47 [some (ZR 0), some (ZI sheet), none, some (ZI from_), some (ZI n), none, some (ZI x6_47), none, none] [] 41 σ_47 := by
          intro fuel
          induction fuel with
          | zero =>
            intro x6_47 σ_47 hx6_47 hσ_47 hFσ_47 Mσ_47 Oσ_47 Kσ_47 Wσ_47 hm47
            exfalso; omega
          | succ fuel ih =>
            intro x6_47 σ_47 hx6_47 hσ_47 hFσ_47 Mσ_47 Oσ_47 Kσ_47 Wσ_47 hm47
            have ih47 := ih
            show V 47 [some (ZR 0), some (ZI sheet), none, some (ZI from_), some (ZI n), none, some (ZI x6_47), none, none] [] 41 σ_47
            refine zr_iload (pc := 47) hV dX12_log_47 rfl ?_
            refine zr_sipush (pc := 49) hV 336 dX12_log_49 (by decide) ?_
            refine zr_icmp_ge (pc := 52) hV 75 dX12_log_52 (by decide) (by omega) ⟨by decide, by decide⟩ (fun c4 => ?_) (fun c4 => ?_)
            · show V 75 [some (ZR 0), some (ZI sheet), none, some (ZI from_), some (ZI n), none, some (ZI x6_47), none, none] [] 41 σ_47
              refine zr_iconst (pc := 75) hV 0 dX12_log_75 rfl ?_
              refine zr_istore (pc := 76) hV [some (ZR 0), some (ZI sheet), none, some (ZI from_), some (ZI n), none, some (ZI 0), none, none] dX12_log_76 (by decide) rfl rfl ?_
              refine zr_iconst (pc := 78) hV 1 dX12_log_78 rfl ?_
              refine zr_istore (pc := 79) hV [some (ZR 0), some (ZI sheet), none, some (ZI from_), some (ZI n), none, some (ZI 0), some (ZI 1), none] dX12_log_79 (by decide) rfl rfl ?_
              have L81 : ∀ (fuel : Nat) (x6_81 : Int) (x7_81 : Int) (σ_81 : zq_S), (0 ≤ x6_81 ∧ x6_81 ≤ 10) → (0 ≤ x7_81 ∧ x7_81 ≤ 1) → (zx_T σ_81) → (∀ a i : Int, (¬ (a = 0 ∧ i = 26) ∧ ¬ (a = 0 ∧ i = 27) ∧ ¬ (a = 0 ∧ i = 30) ∧ a ≠ 15 ∧ a ≠ 16 ∧ a ≠ 17 ∧ a ≠ 18) → σ_81 a i = σ a i) → (zx_M σ_81) → (zx_O σ_81) → (zx_K σ_81) → (zx_W σ_81) → (x6_81 ≤ n) → 2 * (n - x6_81) + x7_81 < (fuel : Int) → V 81 [some (ZR 0), some (ZI sheet), none, some (ZI from_), some (ZI n), none, some (ZI x6_81), some (ZI x7_81), none] [] 41 σ_81 := by
                intro fuel
                induction fuel with
                | zero =>
                  intro x6_81 x7_81 σ_81 hx6_81 hx7_81 hσ_81 hFσ_81 Mσ_81 Oσ_81 Kσ_81 Wσ_81 hi81_0 hm81
                  exfalso; omega
                | succ fuel ih =>
                  intro x6_81 x7_81 σ_81 hx6_81 hx7_81 hσ_81 hFσ_81 Mσ_81 Oσ_81 Kσ_81 Wσ_81 hi81_0 hm81
                  have ih81 := ih
                  show V 81 [some (ZR 0), some (ZI sheet), none, some (ZI from_), some (ZI n), none, some (ZI x6_81), some (ZI x7_81), none] [] 41 σ_81
                  refine zr_iload (pc := 81) hV dX12_log_81 rfl ?_
                  refine zr_iload (pc := 83) hV dX12_log_83 rfl ?_
                  refine zr_icmp_ge (pc := 85) hV 155 dX12_log_85 (by decide) (by omega) (by omega) (fun c5 => ?_) (fun c5 => ?_)
                  · show V 155 [some (ZR 0), some (ZI sheet), none, some (ZI from_), some (ZI n), none, some (ZI x6_81), some (ZI x7_81), none] [] 41 σ_81
                    refine zr_iconst (pc := 155) hV 0 dX12_log_155 rfl ?_
                    refine zr_istore (pc := 156) hV [some (ZR 0), some (ZI sheet), none, some (ZI from_), some (ZI n), none, some (ZI x6_81), some (ZI x7_81), some (ZI 0)] dX12_log_156 (by decide) rfl rfl ?_
                    have L158 : ∀ (fuel : Nat) (x8_158 : Int) (σ_158 : zq_S), (0 ≤ x8_158 ∧ x8_158 ≤ 336) → (zx_T σ_158) → (∀ a i : Int, (¬ (a = 0 ∧ i = 26) ∧ ¬ (a = 0 ∧ i = 27) ∧ ¬ (a = 0 ∧ i = 30) ∧ a ≠ 15 ∧ a ≠ 16 ∧ a ≠ 17 ∧ a ≠ 18) → σ_158 a i = σ a i) → (zx_M σ_158) → (zx_O σ_158) → (zx_K σ_158) → (zx_W σ_158) → 336 - x8_158 < (fuel : Int) → V 158 [some (ZR 0), none, none, none, none, none, some (ZI x6_81), none, some (ZI x8_158)] [] 41 σ_158 := by
                      intro fuel
                      induction fuel with
                      | zero =>
                        intro x8_158 σ_158 hx8_158 hσ_158 hFσ_158 Mσ_158 Oσ_158 Kσ_158 Wσ_158 hm158
                        exfalso; omega
                      | succ fuel ih =>
                        intro x8_158 σ_158 hx8_158 hσ_158 hFσ_158 Mσ_158 Oσ_158 Kσ_158 Wσ_158 hm158
                        have ih158 := ih
                        show V 158 [some (ZR 0), none, none, none, none, none, some (ZI x6_81), none, some (ZI x8_158)] [] 41 σ_158
                        refine zr_iload (pc := 158) hV dX12_log_158 rfl ?_
                        refine zr_sipush (pc := 160) hV 336 dX12_log_160 (by decide) ?_
                        refine zr_icmp_ge (pc := 163) hV 186 dX12_log_163 (by decide) (by omega) ⟨by decide, by decide⟩ (fun c6 => ?_) (fun c6 => ?_)
                        · show V 186 [some (ZR 0), none, none, none, none, none, some (ZI x6_81), none, some (ZI x8_158)] [] 41 σ_158
                          refine zr_iload (pc := 186) hV dX12_log_186 rfl ?_
                          exact zr_iret (pc := 188) hV dX12_log_188 rfl rfl ⟨_, rfl, (by omega), hσ_158, hFσ_158, trivial, Mσ_158, Oσ_158, Kσ_158, Wσ_158⟩
                        · show V 166 [some (ZR 0), none, none, none, none, none, some (ZI x6_81), none, some (ZI x8_158)] [] 41 σ_158
                          refine zr_aload_n (pc := 166) hV dX12_log_166 rfl rfl ?_
                          refine zr_getR (pc := 167) hV 24 15 dX12_log_167 fX12_62 rfl rfl rfl (by decide) (zx_g24 hσ_158) (by omega) ?_
                          refine zr_iload (pc := 170) hV dX12_log_170 rfl ?_
                          refine zr_aload_n (pc := 172) hV dX12_log_172 rfl rfl ?_
                          refine zr_getR (pc := 173) hV 28 17 dX12_log_173 fX12_69 rfl rfl rfl (by decide) (zx_g28 hσ_158) (by omega) ?_
                          refine zr_iload (pc := 176) hV dX12_log_176 rfl ?_
                          refine zr_iald (pc := 178) hV dX12_log_178 rfl (by decide) rfl (by omega) ?_
                          have t7 := zx_ga17 hσ_158 x8_158
                          refine zr_iast (pc := 179) hV dX12_log_179 rfl (by decide) rfl (by omega) (fun σ179 eσ179 => ?_)
                          have hσ179 : zx_T σ179 := zx_ua15 eσ179 hσ_158 (by omega)
                          have hFσ179 : ∀ a i : Int, (¬ (a = 0 ∧ i = 26) ∧ ¬ (a = 0 ∧ i = 27) ∧ ¬ (a = 0 ∧ i = 30) ∧ a ≠ 15 ∧ a ≠ 16 ∧ a ≠ 17 ∧ a ≠ 18) → σ179 a i = σ a i := fun a i h => by rw [eσ179, zq_up_ne (fun q => h.2.2.2.1 q.1)]; exact hFσ_158 a i h
                          have Mσ179 : zx_M σ179 := zx_M_fr (fun i => by rw [eσ179]; exact zq_up_ne (by omega)) (by rw [eσ179]; exact zq_up_ne (by omega)) (by rw [eσ179]; exact zq_up_ne (by omega)) (by rw [eσ179]; exact zq_up_ne (by omega)) Mσ_158
                          have Oσ179 : zx_O σ179 := zx_O_fr (fun i => by rw [eσ179]; exact zq_up_ne (by omega)) (fun i => by rw [eσ179]; exact zq_up_ne (by omega)) (fun i => by rw [eσ179]; exact zq_up_ne (by omega)) (by rw [eσ179]; exact zq_up_ne (by omega)) (by rw [eσ179]; exact zq_up_ne (by omega)) Oσ_158
                          have Kσ179 : zx_K σ179 := zx_K_fr (fun i => by rw [eσ179]; exact zq_up_ne (by omega)) (by rw [eσ179]; exact zq_up_ne (by omega)) Kσ_158
                          have Wσ179 : zx_W σ179 := zx_W_fr (fun i => by rw [eσ179]; exact zq_up_ne (by omega)) (by rw [eσ179]; exact zq_up_ne (by omega)) (by rw [eσ179]; exact zq_up_ne (by omega)) (by rw [eσ179]; exact zq_up_ne (by omega)) (fun i => by rw [eσ179]; exact zq_up_ne (by omega)) Wσ_158
                          refine zr_iinc (pc := 180) hV [some (ZR 0), none, none, none, none, none, some (ZI x6_81), none, some (ZI (x8_158 + 1))] (x8_158 + 1) dX12_log_180 rfl rfl (by decide) rfl rfl ?_
                          refine zr_goto (pc := 183) hV 158 dX12_log_183 (by decide) ?_
                          exact ih158 (x8_158 + 1) σ179 (by omega) hσ179 hFσ179 Mσ179 Oσ179 Kσ179 Wσ179 (by omega)
                    refine zr_sub (pc := 158) hV [some (ZR 0), none, none, none, none, none, some (ZI x6_81), none, some (ZI 0)] (⟨rfl, rfl, rfl, trivial⟩) ?_
                    exact L158 (336 - (0 : Int) + 1 : Int).toNat 0 σ_81 (by omega) hσ_81 hFσ_81 Mσ_81 Oσ_81 Kσ_81 Wσ_81 (by omega)
                  · show V 88 [some (ZR 0), some (ZI sheet), none, some (ZI from_), some (ZI n), none, some (ZI x6_81), some (ZI x7_81), none] [] 41 σ_81
                    refine zr_iload (pc := 88) hV dX12_log_88 rfl ?_
                    refine zr_if_eq (pc := 90) hV 155 dX12_log_90 (by decide) (by omega) (fun c8 => ?_) (fun c8 => ?_)
                    · show V 155 [some (ZR 0), some (ZI sheet), none, some (ZI from_), some (ZI n), none, some (ZI x6_81), some (ZI x7_81), none] [] 41 σ_81
                      refine zr_iconst (pc := 155) hV 0 dX12_log_155 rfl ?_
                      refine zr_istore (pc := 156) hV [some (ZR 0), some (ZI sheet), none, some (ZI from_), some (ZI n), none, some (ZI x6_81), some (ZI x7_81), some (ZI 0)] dX12_log_156 (by decide) rfl rfl ?_
                      have L158 : ∀ (fuel : Nat) (x8_158 : Int) (σ_158 : zq_S), (0 ≤ x8_158 ∧ x8_158 ≤ 336) → (zx_T σ_158) → (∀ a i : Int, (¬ (a = 0 ∧ i = 26) ∧ ¬ (a = 0 ∧ i = 27) ∧ ¬ (a = 0 ∧ i = 30) ∧ a ≠ 15 ∧ a ≠ 16 ∧ a ≠ 17 ∧ a ≠ 18) → σ_158 a i = σ a i) → (zx_M σ_158) → (zx_O σ_158) → (zx_K σ_158) → (zx_W σ_158) → 336 - x8_158 < (fuel : Int) → V 158 [some (ZR 0), none, none, none, none, none, some (ZI x6_81), none, some (ZI x8_158)] [] 41 σ_158 := by
                        intro fuel
                        induction fuel with
                        | zero =>
                          intro x8_158 σ_158 hx8_158 hσ_158 hFσ_158 Mσ_158 Oσ_158 Kσ_158 Wσ_158 hm158
                          exfalso; omega
                        | succ fuel ih =>
                          intro x8_158 σ_158 hx8_158 hσ_158 hFσ_158 Mσ_158 Oσ_158 Kσ_158 Wσ_158 hm158
                          have ih158 := ih
                          show V 158 [some (ZR 0), none, none, none, none, none, some (ZI x6_81), none, some (ZI x8_158)] [] 41 σ_158
                          refine zr_iload (pc := 158) hV dX12_log_158 rfl ?_
                          refine zr_sipush (pc := 160) hV 336 dX12_log_160 (by decide) ?_
                          refine zr_icmp_ge (pc := 163) hV 186 dX12_log_163 (by decide) (by omega) ⟨by decide, by decide⟩ (fun c9 => ?_) (fun c9 => ?_)
                          · show V 186 [some (ZR 0), none, none, none, none, none, some (ZI x6_81), none, some (ZI x8_158)] [] 41 σ_158
                            refine zr_iload (pc := 186) hV dX12_log_186 rfl ?_
                            exact zr_iret (pc := 188) hV dX12_log_188 rfl rfl ⟨_, rfl, (by omega), hσ_158, hFσ_158, trivial, Mσ_158, Oσ_158, Kσ_158, Wσ_158⟩
                          · show V 166 [some (ZR 0), none, none, none, none, none, some (ZI x6_81), none, some (ZI x8_158)] [] 41 σ_158
                            refine zr_aload_n (pc := 166) hV dX12_log_166 rfl rfl ?_
                            refine zr_getR (pc := 167) hV 24 15 dX12_log_167 fX12_62 rfl rfl rfl (by decide) (zx_g24 hσ_158) (by omega) ?_
                            refine zr_iload (pc := 170) hV dX12_log_170 rfl ?_
                            refine zr_aload_n (pc := 172) hV dX12_log_172 rfl rfl ?_
                            refine zr_getR (pc := 173) hV 28 17 dX12_log_173 fX12_69 rfl rfl rfl (by decide) (zx_g28 hσ_158) (by omega) ?_
                            refine zr_iload (pc := 176) hV dX12_log_176 rfl ?_
                            refine zr_iald (pc := 178) hV dX12_log_178 rfl (by decide) rfl (by omega) ?_
                            have t10 := zx_ga17 hσ_158 x8_158
                            refine zr_iast (pc := 179) hV dX12_log_179 rfl (by decide) rfl (by omega) (fun σ179 eσ179 => ?_)
                            have hσ179 : zx_T σ179 := zx_ua15 eσ179 hσ_158 (by omega)
                            have hFσ179 : ∀ a i : Int, (¬ (a = 0 ∧ i = 26) ∧ ¬ (a = 0 ∧ i = 27) ∧ ¬ (a = 0 ∧ i = 30) ∧ a ≠ 15 ∧ a ≠ 16 ∧ a ≠ 17 ∧ a ≠ 18) → σ179 a i = σ a i := fun a i h => by rw [eσ179, zq_up_ne (fun q => h.2.2.2.1 q.1)]; exact hFσ_158 a i h
                            have Mσ179 : zx_M σ179 := zx_M_fr (fun i => by rw [eσ179]; exact zq_up_ne (by omega)) (by rw [eσ179]; exact zq_up_ne (by omega)) (by rw [eσ179]; exact zq_up_ne (by omega)) (by rw [eσ179]; exact zq_up_ne (by omega)) Mσ_158
                            have Oσ179 : zx_O σ179 := zx_O_fr (fun i => by rw [eσ179]; exact zq_up_ne (by omega)) (fun i => by rw [eσ179]; exact zq_up_ne (by omega)) (fun i => by rw [eσ179]; exact zq_up_ne (by omega)) (by rw [eσ179]; exact zq_up_ne (by omega)) (by rw [eσ179]; exact zq_up_ne (by omega)) Oσ_158
                            have Kσ179 : zx_K σ179 := zx_K_fr (fun i => by rw [eσ179]; exact zq_up_ne (by omega)) (by rw [eσ179]; exact zq_up_ne (by omega)) Kσ_158
                            have Wσ179 : zx_W σ179 := zx_W_fr (fun i => by rw [eσ179]; exact zq_up_ne (by omega)) (by rw [eσ179]; exact zq_up_ne (by omega)) (by rw [eσ179]; exact zq_up_ne (by omega)) (by rw [eσ179]; exact zq_up_ne (by omega)) (fun i => by rw [eσ179]; exact zq_up_ne (by omega)) Wσ_158
                            refine zr_iinc (pc := 180) hV [some (ZR 0), none, none, none, none, none, some (ZI x6_81), none, some (ZI (x8_158 + 1))] (x8_158 + 1) dX12_log_180 rfl rfl (by decide) rfl rfl ?_
                            refine zr_goto (pc := 183) hV 158 dX12_log_183 (by decide) ?_
                            exact ih158 (x8_158 + 1) σ179 (by omega) hσ179 hFσ179 Mσ179 Oσ179 Kσ179 Wσ179 (by omega)
                      refine zr_sub (pc := 158) hV [some (ZR 0), none, none, none, none, none, some (ZI x6_81), none, some (ZI 0)] (⟨rfl, rfl, rfl, trivial⟩) ?_
                      exact L158 (336 - (0 : Int) + 1 : Int).toNat 0 σ_81 (by omega) hσ_81 hFσ_81 Mσ_81 Oσ_81 Kσ_81 Wσ_81 (by omega)
                    · show V 93 [some (ZR 0), some (ZI sheet), none, some (ZI from_), some (ZI n), none, some (ZI x6_81), some (ZI x7_81), none] [] 41 σ_81
                      refine zr_aload_n (pc := 93) hV dX12_log_93 rfl rfl ?_
                      refine zr_bipush (pc := 94) hV 30 dX12_log_94 (by decide) ?_
                      refine zr_iload_n (pc := 96) hV dX12_log_96 rfl rfl ?_
                      refine zr_imul (pc := 97) hV dX12_log_97 ?_
                      refine zr_iload_n (pc := 98) hV dX12_log_98 rfl rfl ?_
                      refine zr_iadd (pc := 99) hV dX12_log_99 ?_
                      refine zr_iconst (pc := 100) hV 3 dX12_log_100 rfl ?_
                      refine zr_iload (pc := 101) hV dX12_log_101 rfl ?_
                      refine zr_imul (pc := 103) hV dX12_log_103 ?_
                      refine zr_iadd (pc := 104) hV dX12_log_104 ?_
                      refine zr_callVp (pc := 105) hV [ZI (((30 * sheet) + from_) + (3 * x6_81))] (st := []) (c_X12_isSo (σ := σ_81) hσ_81 (((30 * sheet) + from_) + (3 * x6_81)) (by omega)) dX12_log_105 mX12_488 rfl (by decide) (by decide) (Nat.le_of_ble_eq_true rfl) (Nat.le_refl _) (fun r105 hr105 pr105 => ?_)
                      refine zr_istore (pc := 108) hV [some (ZR 0), some (ZI sheet), none, some (ZI from_), some (ZI n), none, some (ZI x6_81), some (ZI r105), none] dX12_log_108 (by decide) rfl rfl ?_
                      refine zr_iload (pc := 110) hV dX12_log_110 rfl ?_
                      refine zr_iload (pc := 112) hV dX12_log_112 rfl ?_
                      have J122 : ∀ (v0_122 : Int), (0 ≤ v0_122 ∧ v0_122 ≤ 1) → (v0_122 = r105) → V 122 [some (ZR 0), some (ZI sheet), none, some (ZI from_), some (ZI n), none, none, some (ZI r105), none] [ZI v0_122, ZI x6_81] 41 σ_81 := by
                        intro v0_122 hv0_122 hi122_0
                        show V 122 [some (ZR 0), some (ZI sheet), none, some (ZI from_), some (ZI n), none, none, some (ZI r105), none] [ZI v0_122, ZI x6_81] 41 σ_81
                        refine zr_iadd (pc := 122) hV dX12_log_122 ?_
                        refine zr_istore (pc := 123) hV [some (ZR 0), some (ZI sheet), none, some (ZI from_), some (ZI n), none, some (ZI (x6_81 + v0_122)), some (ZI r105), none] dX12_log_123 (by decide) rfl rfl ?_
                        refine zr_iload (pc := 125) hV dX12_log_125 rfl ?_
                        refine zr_if_eq (pc := 127) hV 149 dX12_log_127 (by decide) (by omega) (fun c11 => ?_) (fun c11 => ?_)
                        · show V 149 [some (ZR 0), some (ZI sheet), none, some (ZI from_), some (ZI n), none, some (ZI (x6_81 + v0_122)), some (ZI r105), none] [] 41 σ_81
                          refine zr_iconst (pc := 149) hV 0 dX12_log_149 rfl ?_
                          show V 150 [some (ZR 0), some (ZI sheet), none, some (ZI from_), some (ZI n), none, some (ZI (x6_81 + v0_122)), some (ZI r105), none] [ZI 0] 41 σ_81
                          refine zr_istore (pc := 150) hV [some (ZR 0), some (ZI sheet), none, some (ZI from_), some (ZI n), none, some (ZI (x6_81 + v0_122)), some (ZI 0), none] dX12_log_150 (by decide) rfl rfl ?_
                          refine zr_goto (pc := 152) hV 81 dX12_log_152 (by decide) ?_
                          exact ih81 (x6_81 + v0_122) 0 σ_81 (by omega) (by omega) hσ_81 hFσ_81 Mσ_81 Oσ_81 Kσ_81 Wσ_81 (by omega) (by omega)
                        · show V 130 [some (ZR 0), some (ZI sheet), none, some (ZI from_), some (ZI n), none, some (ZI (x6_81 + v0_122)), some (ZI r105), none] [] 41 σ_81
                          refine zr_iload (pc := 130) hV dX12_log_130 rfl ?_
                          refine zr_iload (pc := 132) hV dX12_log_132 rfl ?_
                          refine zr_icmp_eq (pc := 134) hV 145 dX12_log_134 (by decide) (by omega) (by omega) (fun c12 => ?_) (fun c12 => ?_)
                          · show V 145 [some (ZR 0), some (ZI sheet), none, some (ZI from_), some (ZI n), none, some (ZI (x6_81 + v0_122)), some (ZI r105), none] [] 41 σ_81
                            refine zr_iconst (pc := 145) hV 1 dX12_log_145 rfl ?_
                            refine zr_goto (pc := 146) hV 150 dX12_log_146 (by decide) ?_
                            show V 150 [some (ZR 0), some (ZI sheet), none, some (ZI from_), some (ZI n), none, some (ZI (x6_81 + v0_122)), some (ZI r105), none] [ZI 1] 41 σ_81
                            refine zr_istore (pc := 150) hV [some (ZR 0), some (ZI sheet), none, some (ZI from_), some (ZI n), none, some (ZI (x6_81 + v0_122)), some (ZI 1), none] dX12_log_150 (by decide) rfl rfl ?_
                            refine zr_goto (pc := 152) hV 81 dX12_log_152 (by decide) ?_
                            exact ih81 (x6_81 + v0_122) 1 σ_81 (by omega) (by omega) hσ_81 hFσ_81 Mσ_81 Oσ_81 Kσ_81 Wσ_81 (by omega) (by omega)
                          · show V 137 [some (ZR 0), some (ZI sheet), none, some (ZI from_), some (ZI n), none, some (ZI (x6_81 + v0_122)), some (ZI r105), none] [] 41 σ_81
                            refine zr_aload_n (pc := 137) hV dX12_log_137 rfl rfl ?_
                            refine zr_iconst (pc := 138) hV 0 dX12_log_138 rfl ?_
                            refine zr_callVi (pc := 139) hV [ZI 0] (st := []) (c_X12_doStepW (σ := σ_81) hσ_81 0 (by omega) Mσ_81 Oσ_81 Kσ_81 Wσ_81) dX12_log_139 mX12_382 rfl (by decide) (by decide) (Nat.le_of_ble_eq_true rfl) (Nat.le_refl _) (fun r139 σ139 hr139 pσ139 => ?_)
                            obtain ⟨hσ139, hfσ139, pσ139, Mσ139, Oσ139, Kσ139, Wσ139⟩ := pσ139
                            have hFσ139 : ∀ a i : Int, (¬ (a = 0 ∧ i = 26) ∧ ¬ (a = 0 ∧ i = 27) ∧ ¬ (a = 0 ∧ i = 30) ∧ a ≠ 15 ∧ a ≠ 16 ∧ a ≠ 17 ∧ a ≠ 18) → σ139 a i = σ a i := fun a i h => (hfσ139 a i ⟨h.1, h.2.1, h.2.2.1, h.2.2.2.1, h.2.2.2.2.1, h.2.2.2.2.2.2⟩).trans (hFσ_81 a i h)
                            refine zr_if_eq (pc := 142) hV 149 dX12_log_142 (by decide) (by omega) (fun c13 => ?_) (fun c13 => ?_)
                            · show V 149 [some (ZR 0), some (ZI sheet), none, some (ZI from_), some (ZI n), none, some (ZI (x6_81 + v0_122)), some (ZI r105), none] [] 41 σ139
                              refine zr_iconst (pc := 149) hV 0 dX12_log_149 rfl ?_
                              show V 150 [some (ZR 0), some (ZI sheet), none, some (ZI from_), some (ZI n), none, some (ZI (x6_81 + v0_122)), some (ZI r105), none] [ZI 0] 41 σ139
                              refine zr_istore (pc := 150) hV [some (ZR 0), some (ZI sheet), none, some (ZI from_), some (ZI n), none, some (ZI (x6_81 + v0_122)), some (ZI 0), none] dX12_log_150 (by decide) rfl rfl ?_
                              refine zr_goto (pc := 152) hV 81 dX12_log_152 (by decide) ?_
                              exact ih81 (x6_81 + v0_122) 0 σ139 (by omega) (by omega) hσ139 hFσ139 Mσ139 Oσ139 Kσ139 Wσ139 (by omega) (by omega)
                            · show V 145 [some (ZR 0), some (ZI sheet), none, some (ZI from_), some (ZI n), none, some (ZI (x6_81 + v0_122)), some (ZI r105), none] [] 41 σ139
                              refine zr_iconst (pc := 145) hV 1 dX12_log_145 rfl ?_
                              refine zr_goto (pc := 146) hV 150 dX12_log_146 (by decide) ?_
                              show V 150 [some (ZR 0), some (ZI sheet), none, some (ZI from_), some (ZI n), none, some (ZI (x6_81 + v0_122)), some (ZI r105), none] [ZI 1] 41 σ139
                              refine zr_istore (pc := 150) hV [some (ZR 0), some (ZI sheet), none, some (ZI from_), some (ZI n), none, some (ZI (x6_81 + v0_122)), some (ZI 1), none] dX12_log_150 (by decide) rfl rfl ?_
                              refine zr_goto (pc := 152) hV 81 dX12_log_152 (by decide) ?_
                              exact ih81 (x6_81 + v0_122) 1 σ139 (by omega) (by omega) hσ139 hFσ139 Mσ139 Oσ139 Kσ139 Wσ139 (by omega) (by omega)
                      refine zr_if_eq (pc := 114) hV 121 dX12_log_114 (by decide) (by omega) (fun c14 => ?_) (fun c14 => ?_)
                      · show V 121 [some (ZR 0), some (ZI sheet), none, some (ZI from_), some (ZI n), none, some (ZI x6_81), some (ZI r105), none] [ZI x6_81] 41 σ_81
                        refine zr_iconst (pc := 121) hV 0 dX12_log_121 rfl ?_
                        refine zr_sub (pc := 122) hV [some (ZR 0), some (ZI sheet), none, some (ZI from_), some (ZI n), none, none, some (ZI r105), none] (⟨rfl, rfl, rfl, rfl, rfl, trivial⟩) ?_
                        exact J122 0 (by omega) (by omega)
                      · show V 117 [some (ZR 0), some (ZI sheet), none, some (ZI from_), some (ZI n), none, some (ZI x6_81), some (ZI r105), none] [ZI x6_81] 41 σ_81
                        refine zr_iconst (pc := 117) hV 1 dX12_log_117 rfl ?_
                        refine zr_goto (pc := 118) hV 122 dX12_log_118 (by decide) ?_
                        refine zr_sub (pc := 122) hV [some (ZR 0), some (ZI sheet), none, some (ZI from_), some (ZI n), none, none, some (ZI r105), none] (⟨rfl, rfl, rfl, rfl, rfl, trivial⟩) ?_
                        exact J122 1 (by omega) (by omega)
              exact L81 (2 * (n - (0 : Int)) + (1 : Int) + 1 : Int).toNat 0 1 σ_47 (by omega) (by omega) hσ_47 hFσ_47 Mσ_47 Oσ_47 Kσ_47 Wσ_47 (by omega) (by omega)
            · show V 55 [some (ZR 0), some (ZI sheet), none, some (ZI from_), some (ZI n), none, some (ZI x6_47), none, none] [] 41 σ_47
              refine zr_aload_n (pc := 55) hV dX12_log_55 rfl rfl ?_
              refine zr_getR (pc := 56) hV 28 17 dX12_log_56 fX12_69 rfl rfl rfl (by decide) (zx_g28 hσ_47) (by omega) ?_
              refine zr_iload (pc := 59) hV dX12_log_59 rfl ?_
              refine zr_aload_n (pc := 61) hV dX12_log_61 rfl rfl ?_
              refine zr_getR (pc := 62) hV 24 15 dX12_log_62 fX12_62 rfl rfl rfl (by decide) (zx_g24 hσ_47) (by omega) ?_
              refine zr_iload (pc := 65) hV dX12_log_65 rfl ?_
              refine zr_iald (pc := 67) hV dX12_log_67 rfl (by decide) rfl (by omega) ?_
              have t15 := zx_ga15 hσ_47 x6_47
              refine zr_iast (pc := 68) hV dX12_log_68 rfl (by decide) rfl (by omega) (fun σ68 eσ68 => ?_)
              have hσ68 : zx_T σ68 := zx_ua17 eσ68 hσ_47 (by omega)
              have hFσ68 : ∀ a i : Int, (¬ (a = 0 ∧ i = 26) ∧ ¬ (a = 0 ∧ i = 27) ∧ ¬ (a = 0 ∧ i = 30) ∧ a ≠ 15 ∧ a ≠ 16 ∧ a ≠ 17 ∧ a ≠ 18) → σ68 a i = σ a i := fun a i h => by rw [eσ68, zq_up_ne (fun q => h.2.2.2.2.2.1 q.1)]; exact hFσ_47 a i h
              have Mσ68 : zx_M σ68 := zx_M_fr (fun i => by rw [eσ68]; exact zq_up_ne (by omega)) (by rw [eσ68]; exact zq_up_ne (by omega)) (by rw [eσ68]; exact zq_up_ne (by omega)) (by rw [eσ68]; exact zq_up_ne (by omega)) Mσ_47
              have Oσ68 : zx_O σ68 := zx_O_fr (fun i => by rw [eσ68]; exact zq_up_ne (by omega)) (fun i => by rw [eσ68]; exact zq_up_ne (by omega)) (fun i => by rw [eσ68]; exact zq_up_ne (by omega)) (by rw [eσ68]; exact zq_up_ne (by omega)) (by rw [eσ68]; exact zq_up_ne (by omega)) Oσ_47
              have Kσ68 : zx_K σ68 := zx_K_fr (fun i => by rw [eσ68]; exact zq_up_ne (by omega)) (by rw [eσ68]; exact zq_up_ne (by omega)) Kσ_47
              have Wσ68 : zx_W σ68 := zx_W_fr (fun i => by rw [eσ68]; exact zq_up_ne (by omega)) (by rw [eσ68]; exact zq_up_ne (by omega)) (by rw [eσ68]; exact zq_up_ne (by omega)) (by rw [eσ68]; exact zq_up_ne (by omega)) (fun i => by rw [eσ68]; exact zq_up_ne (by omega)) Wσ_47
              refine zr_iinc (pc := 69) hV [some (ZR 0), some (ZI sheet), none, some (ZI from_), some (ZI n), none, some (ZI (x6_47 + 1)), none, none] (x6_47 + 1) dX12_log_69 rfl rfl (by decide) rfl rfl ?_
              refine zr_goto (pc := 72) hV 47 dX12_log_72 (by decide) ?_
              exact ih47 (x6_47 + 1) σ68 (by omega) hσ68 hFσ68 Mσ68 Oσ68 Kσ68 Wσ68 (by omega)
        refine zr_sub (pc := 47) hV [some (ZR 0), some (ZI sheet), none, some (ZI from_), some (ZI n), none, some (ZI 0), none, none] (⟨rfl, rfl, rfl, rfl, rfl, trivial⟩) ?_
        exact L47 (336 - (0 : Int) + 1 : Int).toNat 0 σ (by omega) hσ (fun a i _ => rfl) Mσ Oσ Kσ Wσ (by omega)
      · show V 41 [some (ZR 0), some (ZI sheet), some (ZI lane), some (ZI from_), some (ZI n), some (ZI r31), none, none, none] [] 41 σ
        refine zr_iload (pc := 41) hV dX12_log_41 rfl ?_
        exact zr_iret (pc := 43) hV dX12_log_43 rfl rfl ⟨_, rfl, (by omega), hσ, (fun a i _ => rfl), trivial, Mσ, Oσ, Kσ, Wσ⟩
    · show V 21 [some (ZR 0), some (ZI sheet), some (ZI lane), some (ZI from_), some (ZI n), none, none, none, none] [] 41 σ
      refine zr_iconst (pc := 21) hV (-1) dX12_log_21 rfl ?_
      exact zr_iret (pc := 22) hV dX12_log_22 rfl rfl ⟨_, rfl, ⟨by decide, by decide⟩, hσ, (fun a i _ => rfl), trivial, Mσ, Oσ, Kσ, Wσ⟩
