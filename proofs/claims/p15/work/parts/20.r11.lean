set_option maxHeartbeats 800000 in
theorem c_X12_costBy {σ : zq_S} (hσ : zx_T σ) (o node move : Int) (q0 : 0 ≤ o ∧ o ≤ 19) (q1 : 0 ≤ node ∧ node ≤ 39) (q2 : -1 ≤ move ∧ move ≤ 19) : zq_C zx_w yX12_costBy cX12_costBy 9 (some .int) 4 94 41 41 [ZR 0, ZI o, ZI node, ZI move] σ (zq_pp σ (fun r => True ∧ zq_hid (0 ≤ r → (σ 21 node = 1 → zx_form σ o = 1) ∧ (¬ σ 21 node = 1 → 3 ≤ zx_form σ o ∧ 0 ≤ σ 31 (σ 23 node) ∧ (zx_form σ o = 3 ∨ zx_form σ o = 5 → 0 ≤ σ 31 (σ 24 node)) ∧ (5 ≤ zx_form σ o → σ 21 (σ 23 node) = 0 → 0 ≤ move))))) := by
  refine zq_C_of (by decide) (Nat.le_refl _) (Nat.le_of_ble_eq_true rfl) [some (ZR 0), some (ZI o), some (ZI node), some (ZI move), none, none, none, none, none] rfl (fun V hV => ?_)
  show V 0 [some (ZR 0), some (ZI o), some (ZI node), some (ZI move), none, none, none, none, none] [] 41 σ
  refine zr_aload_n (pc := 0) hV dX12_costBy_0 rfl rfl ?_
  refine zr_iload_n (pc := 1) hV dX12_costBy_1 rfl rfl ?_
  refine zr_callVp (pc := 2) hV [ZI o] (st := []) (c_X12_formOf (σ := σ) hσ o (by omega)) dX12_costBy_2 mX12_428 rfl (by decide) (by decide) (Nat.le_of_ble_eq_true rfl) (Nat.le_refl _) (fun r2 hr2 pr2 => ?_)
  refine zr_istore (pc := 5) hV [some (ZR 0), some (ZI o), some (ZI node), some (ZI move), some (ZI r2), none, none, none, none] dX12_costBy_5 (by decide) rfl rfl ?_
  refine zr_aload_n (pc := 7) hV dX12_costBy_7 rfl rfl ?_
  refine zr_getR (pc := 8) hV 38 21 dX12_costBy_8 fX12_87 rfl rfl rfl (by decide) (zx_g38 hσ) (by omega) ?_
  refine zr_iload_n (pc := 11) hV dX12_costBy_11 rfl rfl ?_
  refine zr_iald (pc := 12) hV dX12_costBy_12 rfl (by decide) rfl (by omega) ?_
  have t1 := zx_ga21 hσ node
  refine zr_iconst (pc := 13) hV 1 dX12_costBy_13 rfl ?_
  refine zr_icmp_ne (pc := 14) hV 43 dX12_costBy_14 (by decide) (by omega) ⟨by decide, by decide⟩ (fun c2 => ?_) (fun c2 => ?_)
  · show V 43 [some (ZR 0), some (ZI o), some (ZI node), some (ZI move), some (ZI r2), none, none, none, none] [] 41 σ
    refine zr_iload (pc := 43) hV dX12_costBy_43 rfl ?_
    refine zr_iconst (pc := 45) hV 3 dX12_costBy_45 rfl ?_
    refine zr_icmp_lt (pc := 46) hV 69 dX12_costBy_46 (by decide) (by omega) ⟨by decide, by decide⟩ (fun c3 => ?_) (fun c3 => ?_)
    · show V 69 [some (ZR 0), some (ZI o), some (ZI node), some (ZI move), some (ZI r2), none, none, none, none] [] 41 σ
      refine zr_iconst (pc := 69) hV (-1) dX12_costBy_69 rfl ?_
      exact zr_iret (pc := 70) hV dX12_costBy_70 rfl rfl ⟨rfl, _, rfl, ⟨by decide, by decide⟩, ⟨trivial, (by unfold zq_hid; exact fun h => absurd h (by decide))⟩⟩
    · show V 49 [some (ZR 0), some (ZI o), some (ZI node), some (ZI move), some (ZI r2), none, none, none, none] [] 41 σ
      refine zr_aload_n (pc := 49) hV dX12_costBy_49 rfl rfl ?_
      refine zr_getR (pc := 50) hV 9 6 dX12_costBy_50 fX12_35 rfl rfl rfl (by decide) (zx_g9 hσ) (by omega) ?_
      refine zr_bipush (pc := 53) hV 18 dX12_costBy_53 (by decide) ?_
      refine zr_iload_n (pc := 55) hV dX12_costBy_55 rfl rfl ?_
      refine zr_imul (pc := 56) hV dX12_costBy_56 ?_
      refine zr_iconst (pc := 57) hV 3 dX12_costBy_57 rfl ?_
      refine zr_iadd (pc := 58) hV dX12_costBy_58 ?_
      refine zr_iald (pc := 59) hV dX12_costBy_59 rfl (by decide) rfl (by omega) ?_
      have t4 := zx_ac3 hσ ((18 * o) + 3) (by omega)
      refine zr_aload_n (pc := 60) hV dX12_costBy_60 rfl rfl ?_
      refine zr_getR (pc := 61) hV 39 22 dX12_costBy_61 fX12_90 rfl rfl rfl (by decide) (zx_g39 hσ) (by omega) ?_
      refine zr_iload_n (pc := 64) hV dX12_costBy_64 rfl rfl ?_
      refine zr_iald (pc := 65) hV dX12_costBy_65 rfl (by decide) rfl (by omega) ?_
      have t5 := zx_ga22 hσ node
      refine zr_icmp_eq (pc := 66) hV 71 dX12_costBy_66 (by decide) (by omega) (by omega) (fun c6 => ?_) (fun c6 => ?_)
      · show V 71 [some (ZR 0), some (ZI o), some (ZI node), some (ZI move), some (ZI r2), none, none, none, none] [] 41 σ
        refine zr_aload_n (pc := 71) hV dX12_costBy_71 rfl rfl ?_
        refine zr_getR (pc := 72) hV 40 23 dX12_costBy_72 fX12_93 rfl rfl rfl (by decide) (zx_g40 hσ) (by omega) ?_
        refine zr_iload_n (pc := 75) hV dX12_costBy_75 rfl rfl ?_
        refine zr_iald (pc := 76) hV dX12_costBy_76 rfl (by decide) rfl (by omega) ?_
        have t7 := zx_ga23 hσ node
        refine zr_istore (pc := 77) hV [some (ZR 0), some (ZI o), some (ZI node), some (ZI move), some (ZI r2), some (ZI (σ 23 node)), none, none, none] dX12_costBy_77 (by decide) rfl rfl ?_
        refine zr_aload_n (pc := 79) hV dX12_costBy_79 rfl rfl ?_
        refine zr_getR (pc := 80) hV 41 24 dX12_costBy_80 fX12_96 rfl rfl rfl (by decide) (zx_g41 hσ) (by omega) ?_
        refine zr_iload_n (pc := 83) hV dX12_costBy_83 rfl rfl ?_
        refine zr_iald (pc := 84) hV dX12_costBy_84 rfl (by decide) rfl (by omega) ?_
        have t8 := zx_ga24 hσ node
        refine zr_istore (pc := 85) hV [some (ZR 0), some (ZI o), some (ZI node), some (ZI move), some (ZI r2), some (ZI (σ 23 node)), some (ZI (σ 24 node)), none, none] dX12_costBy_85 (by decide) rfl rfl ?_
        refine zr_iload (pc := 87) hV dX12_costBy_87 rfl ?_
        refine zr_iconst (pc := 89) hV 4 dX12_costBy_89 rfl ?_
        have J105 : ∀ (v0_105 : Int), (0 ≤ v0_105 ∧ v0_105 ≤ 1) → (zq_hid ((v0_105 = 1 ∧ (r2 = 4 ∨ r2 = 6)) ∨ (v0_105 = 0 ∧ r2 ≠ 4 ∧ r2 ≠ 6))) → V 105 [some (ZR 0), some (ZI o), none, some (ZI move), some (ZI r2), some (ZI (σ 23 node)), some (ZI (σ 24 node)), none, none] [ZI v0_105] 41 σ := by
          intro v0_105 hv0_105 hi105_0
          show V 105 [some (ZR 0), some (ZI o), none, some (ZI move), some (ZI r2), some (ZI (σ 23 node)), some (ZI (σ 24 node)), none, none] [ZI v0_105] 41 σ
          refine zr_istore (pc := 105) hV [some (ZR 0), some (ZI o), none, some (ZI move), some (ZI r2), some (ZI (σ 23 node)), some (ZI (σ 24 node)), some (ZI v0_105), none] dX12_costBy_105 (by decide) rfl rfl ?_
          refine zr_iload (pc := 107) hV dX12_costBy_107 rfl ?_
          refine zr_iconst (pc := 109) hV 5 dX12_costBy_109 rfl ?_
          have J128 : ∀ (v0_128 : Int), (0 ≤ v0_128 ∧ v0_128 ≤ 1) → (zq_hid ((v0_128 = 1 ∧ 5 ≤ r2 ∧ σ 21 (σ 23 node) = 0) ∨ (v0_128 = 0 ∧ (r2 < 5 ∨ σ 21 (σ 23 node) ≠ 0)))) → V 128 [some (ZR 0), some (ZI o), none, some (ZI move), none, some (ZI (σ 23 node)), some (ZI (σ 24 node)), some (ZI v0_105), none] [ZI v0_128] 41 σ := by
            intro v0_128 hv0_128 hi128_0
            show V 128 [some (ZR 0), some (ZI o), none, some (ZI move), none, some (ZI (σ 23 node)), some (ZI (σ 24 node)), some (ZI v0_105), none] [ZI v0_128] 41 σ
            refine zr_istore (pc := 128) hV [some (ZR 0), some (ZI o), none, some (ZI move), none, some (ZI (σ 23 node)), some (ZI (σ 24 node)), some (ZI v0_105), some (ZI v0_128)] dX12_costBy_128 (by decide) rfl rfl ?_
            refine zr_aload_n (pc := 130) hV dX12_costBy_130 rfl rfl ?_
            refine zr_getR (pc := 131) hV 51 31 dX12_costBy_131 fX12_117 rfl rfl rfl (by decide) (zx_g51 hσ) (by omega) ?_
            refine zr_iload (pc := 134) hV dX12_costBy_134 rfl ?_
            refine zr_iald (pc := 136) hV dX12_costBy_136 rfl (by decide) rfl (by omega) ?_
            have t9 := zx_ga31 hσ (σ 23 node)
            refine zr_if_lt (pc := 137) hV 177 dX12_costBy_137 (by decide) (by omega) (fun c10 => ?_) (fun c10 => ?_)
            · show V 177 [some (ZR 0), some (ZI o), none, some (ZI move), none, some (ZI (σ 23 node)), some (ZI (σ 24 node)), some (ZI v0_105), some (ZI v0_128)] [] 41 σ
              refine zr_iconst (pc := 177) hV (-1) dX12_costBy_177 rfl ?_
              exact zr_iret (pc := 178) hV dX12_costBy_178 rfl rfl ⟨rfl, _, rfl, ⟨by decide, by decide⟩, ⟨trivial, (by unfold zq_hid; exact fun h => absurd h (by decide))⟩⟩
            · show V 140 [some (ZR 0), some (ZI o), none, some (ZI move), none, some (ZI (σ 23 node)), some (ZI (σ 24 node)), some (ZI v0_105), some (ZI v0_128)] [] 41 σ
              refine zr_iload (pc := 140) hV dX12_costBy_140 rfl ?_
              have J168 : (v0_105 = 0 → 0 ≤ σ 31 (σ 24 node)) → V 168 [some (ZR 0), some (ZI o), none, some (ZI move), none, some (ZI (σ 23 node)), some (ZI (σ 24 node)), some (ZI v0_105), some (ZI v0_128)] [] 41 σ := by
                intro hi168_0
                show V 168 [some (ZR 0), some (ZI o), none, some (ZI move), none, some (ZI (σ 23 node)), some (ZI (σ 24 node)), some (ZI v0_105), some (ZI v0_128)] [] 41 σ
                refine zr_iload (pc := 168) hV dX12_costBy_168 rfl ?_
                have J179 : (1 ≤ v0_128 → 0 ≤ move) → V 179 [some (ZR 0), some (ZI o), none, some (ZI move), none, some (ZI (σ 23 node)), some (ZI (σ 24 node)), some (ZI v0_105), some (ZI v0_128)] [] 41 σ := by
                  intro hi179_0
                  show V 179 [some (ZR 0), some (ZI o), none, some (ZI move), none, some (ZI (σ 23 node)), some (ZI (σ 24 node)), some (ZI v0_105), some (ZI v0_128)] [] 41 σ
                  refine zr_aload_n (pc := 179) hV dX12_costBy_179 rfl rfl ?_
                  refine zr_getR (pc := 180) hV 51 31 dX12_costBy_180 fX12_117 rfl rfl rfl (by decide) (zx_g51 hσ) (by omega) ?_
                  refine zr_iload (pc := 183) hV dX12_costBy_183 rfl ?_
                  refine zr_iald (pc := 185) hV dX12_costBy_185 rfl (by decide) rfl (by omega) ?_
                  have t11 := zx_ga31 hσ (σ 23 node)
                  refine zr_iload (pc := 186) hV dX12_costBy_186 rfl ?_
                  have J202 : ∀ (v0_202 : Int), ((-2147483648) ≤ v0_202 ∧ v0_202 ≤ 2147483647) → V 202 [some (ZR 0), some (ZI o), none, some (ZI move), none, none, none, none, some (ZI v0_128)] [ZI v0_202, ZI (σ 31 (σ 23 node))] 41 σ := by
                    intro v0_202 hv0_202
                    show V 202 [some (ZR 0), some (ZI o), none, some (ZI move), none, none, none, none, some (ZI v0_128)] [ZI v0_202, ZI (σ 31 (σ 23 node))] 41 σ
                    refine zr_iadd (pc := 202) hV dX12_costBy_202 ?_
                    refine zr_any (pc := 203) hV (fun y203 hy203 _ => ?_)
                    refine zr_aload_n (pc := 203) hV dX12_costBy_203 rfl rfl ?_
                    refine zr_getR (pc := 204) hV 10 7 dX12_costBy_204 fX12_38 rfl rfl rfl (by decide) (zx_g10 hσ) (by omega) ?_
                    refine zr_iload_n (pc := 207) hV dX12_costBy_207 rfl rfl ?_
                    refine zr_iald (pc := 208) hV dX12_costBy_208 rfl (by decide) rfl (by omega) ?_
                    have t12 := zx_ga7 hσ o
                    refine zr_iadd (pc := 209) hV dX12_costBy_209 ?_
                    refine zr_any (pc := 210) hV (fun y210 hy210 _ => ?_)
                    refine zr_iload (pc := 210) hV dX12_costBy_210 rfl ?_
                    refine zr_if_eq (pc := 212) hV 224 dX12_costBy_212 (by decide) (by omega) (fun c13 => ?_) (fun c13 => ?_)
                    · show V 224 [some (ZR 0), some (ZI o), none, some (ZI move), none, none, none, none, some (ZI v0_128)] [ZI y210] 41 σ
                      refine zr_iconst (pc := 224) hV 0 dX12_costBy_224 rfl ?_
                      show V 225 [some (ZR 0), some (ZI o), none, some (ZI move), none, none, none, none, some (ZI v0_128)] [ZI 0, ZI y210] 41 σ
                      refine zr_iadd (pc := 225) hV dX12_costBy_225 ?_
                      exact zr_iret (pc := 226) hV dX12_costBy_226 rfl rfl ⟨rfl, _, rfl, (by omega), ⟨trivial, (by unfold zq_hid; have u1 : (v0_105 = 1 ∧ (r2 = 4 ∨ r2 = 6)) ∨ (v0_105 = 0 ∧ r2 ≠ 4 ∧ r2 ≠ 6) := hi105_0; have u2 : (v0_128 = 1 ∧ 5 ≤ r2 ∧ σ 21 (σ 23 node) = 0) ∨ (v0_128 = 0 ∧ (r2 < 5 ∨ σ 21 (σ 23 node) ≠ 0)) := hi128_0; exact fun _ => ⟨fun h => absurd h (by omega), fun _ => ⟨by omega, by omega, fun h => by omega, fun h1 h2 => by omega⟩⟩)⟩⟩
                    · show V 215 [some (ZR 0), some (ZI o), none, some (ZI move), none, none, none, none, some (ZI v0_128)] [ZI y210] 41 σ
                      refine zr_aload_n (pc := 215) hV dX12_costBy_215 rfl rfl ?_
                      refine zr_getR (pc := 216) hV 10 7 dX12_costBy_216 fX12_38 rfl rfl rfl (by decide) (zx_g10 hσ) (by omega) ?_
                      refine zr_iload_n (pc := 219) hV dX12_costBy_219 rfl rfl ?_
                      refine zr_iald (pc := 220) hV dX12_costBy_220 rfl (by decide) rfl (by omega) ?_
                      have t14 := zx_ga7 hσ move
                      refine zr_goto (pc := 221) hV 225 dX12_costBy_221 (by decide) ?_
                      show V 225 [some (ZR 0), some (ZI o), none, some (ZI move), none, none, none, none, some (ZI v0_128)] [ZI (σ 7 move), ZI y210] 41 σ
                      refine zr_iadd (pc := 225) hV dX12_costBy_225 ?_
                      refine zr_any (pc := 226) hV (fun y226 hy226 _ => ?_)
                      exact zr_iret (pc := 226) hV dX12_costBy_226 rfl rfl ⟨rfl, _, rfl, (by omega), ⟨trivial, (by unfold zq_hid; have u1 : (v0_105 = 1 ∧ (r2 = 4 ∨ r2 = 6)) ∨ (v0_105 = 0 ∧ r2 ≠ 4 ∧ r2 ≠ 6) := hi105_0; have u2 : (v0_128 = 1 ∧ 5 ≤ r2 ∧ σ 21 (σ 23 node) = 0) ∨ (v0_128 = 0 ∧ (r2 < 5 ∨ σ 21 (σ 23 node) ≠ 0)) := hi128_0; exact fun _ => ⟨fun h => absurd h (by omega), fun _ => ⟨by omega, by omega, fun h => by omega, fun h1 h2 => by omega⟩⟩)⟩⟩
                  refine zr_if_eq (pc := 188) hV 195 dX12_costBy_188 (by decide) (by omega) (fun c15 => ?_) (fun c15 => ?_)
                  · show V 195 [some (ZR 0), some (ZI o), none, some (ZI move), none, some (ZI (σ 23 node)), some (ZI (σ 24 node)), some (ZI v0_105), some (ZI v0_128)] [ZI (σ 31 (σ 23 node))] 41 σ
                    refine zr_aload_n (pc := 195) hV dX12_costBy_195 rfl rfl ?_
                    refine zr_getR (pc := 196) hV 51 31 dX12_costBy_196 fX12_117 rfl rfl rfl (by decide) (zx_g51 hσ) (by omega) ?_
                    refine zr_iload (pc := 199) hV dX12_costBy_199 rfl ?_
                    refine zr_iald (pc := 201) hV dX12_costBy_201 rfl (by decide) rfl (by omega) ?_
                    have t16 := zx_ga31 hσ (σ 24 node)
                    refine zr_sub (pc := 202) hV [some (ZR 0), some (ZI o), none, some (ZI move), none, none, none, none, some (ZI v0_128)] (⟨rfl, rfl, rfl, rfl, trivial⟩) ?_
                    exact J202 (σ 31 (σ 24 node)) (by omega)
                  · show V 191 [some (ZR 0), some (ZI o), none, some (ZI move), none, some (ZI (σ 23 node)), some (ZI (σ 24 node)), some (ZI v0_105), some (ZI v0_128)] [ZI (σ 31 (σ 23 node))] 41 σ
                    refine zr_iconst (pc := 191) hV 0 dX12_costBy_191 rfl ?_
                    refine zr_goto (pc := 192) hV 202 dX12_costBy_192 (by decide) ?_
                    refine zr_sub (pc := 202) hV [some (ZR 0), some (ZI o), none, some (ZI move), none, none, none, none, some (ZI v0_128)] (⟨rfl, rfl, rfl, rfl, trivial⟩) ?_
                    exact J202 0 (by omega)
                refine zr_if_eq (pc := 170) hV 179 dX12_costBy_170 (by decide) (by omega) (fun c17 => ?_) (fun c17 => ?_)
                · exact J179 (by omega)
                · show V 173 [some (ZR 0), some (ZI o), none, some (ZI move), none, some (ZI (σ 23 node)), some (ZI (σ 24 node)), some (ZI v0_105), some (ZI v0_128)] [] 41 σ
                  refine zr_iload_n (pc := 173) hV dX12_costBy_173 rfl rfl ?_
                  refine zr_if_ge (pc := 174) hV 179 dX12_costBy_174 (by decide) (by omega) (fun c18 => ?_) (fun c18 => ?_)
                  · exact J179 (by omega)
                  · show V 177 [some (ZR 0), some (ZI o), none, some (ZI move), none, some (ZI (σ 23 node)), some (ZI (σ 24 node)), some (ZI v0_105), some (ZI v0_128)] [] 41 σ
                    refine zr_iconst (pc := 177) hV (-1) dX12_costBy_177 rfl ?_
                    exact zr_iret (pc := 178) hV dX12_costBy_178 rfl rfl ⟨rfl, _, rfl, ⟨by decide, by decide⟩, ⟨trivial, (by unfold zq_hid; exact fun h => absurd h (by decide))⟩⟩
              refine zr_if_eq (pc := 142) hV 158 dX12_costBy_142 (by decide) (by omega) (fun c19 => ?_) (fun c19 => ?_)
              · show V 158 [some (ZR 0), some (ZI o), none, some (ZI move), none, some (ZI (σ 23 node)), some (ZI (σ 24 node)), some (ZI v0_105), some (ZI v0_128)] [] 41 σ
                refine zr_aload_n (pc := 158) hV dX12_costBy_158 rfl rfl ?_
                refine zr_getR (pc := 159) hV 51 31 dX12_costBy_159 fX12_117 rfl rfl rfl (by decide) (zx_g51 hσ) (by omega) ?_
                refine zr_iload (pc := 162) hV dX12_costBy_162 rfl ?_
                refine zr_iald (pc := 164) hV dX12_costBy_164 rfl (by decide) rfl (by omega) ?_
                have t20 := zx_ga31 hσ (σ 24 node)
                refine zr_if_lt (pc := 165) hV 177 dX12_costBy_165 (by decide) (by omega) (fun c21 => ?_) (fun c21 => ?_)
                · show V 177 [some (ZR 0), some (ZI o), none, some (ZI move), none, some (ZI (σ 23 node)), some (ZI (σ 24 node)), some (ZI v0_105), some (ZI v0_128)] [] 41 σ
                  refine zr_iconst (pc := 177) hV (-1) dX12_costBy_177 rfl ?_
                  exact zr_iret (pc := 178) hV dX12_costBy_178 rfl rfl ⟨rfl, _, rfl, ⟨by decide, by decide⟩, ⟨trivial, (by unfold zq_hid; exact fun h => absurd h (by decide))⟩⟩
                · exact J168 (by omega)
              · show V 145 [some (ZR 0), some (ZI o), none, some (ZI move), none, some (ZI (σ 23 node)), some (ZI (σ 24 node)), some (ZI v0_105), some (ZI v0_128)] [] 41 σ
                refine zr_aload_n (pc := 145) hV dX12_costBy_145 rfl rfl ?_
                refine zr_iload_n (pc := 146) hV dX12_costBy_146 rfl rfl ?_
                refine zr_iload (pc := 147) hV dX12_costBy_147 rfl ?_
                refine zr_callVp (pc := 149) hV [ZI o, ZI (σ 24 node)] (st := []) (c_X12_hasRoom (σ := σ) hσ o (σ 24 node) (by omega) (by omega)) dX12_costBy_149 mX12_431 rfl (by decide) (by decide) (Nat.le_of_ble_eq_true rfl) (Nat.le_refl _) (fun r149 hr149 pr149 => ?_)
                refine zr_if_ne (pc := 152) hV 168 dX12_costBy_152 (by decide) (by omega) (fun c22 => ?_) (fun c22 => ?_)
                · exact J168 (by omega)
                · show V 155 [some (ZR 0), some (ZI o), none, some (ZI move), none, some (ZI (σ 23 node)), some (ZI (σ 24 node)), some (ZI v0_105), some (ZI v0_128)] [] 41 σ
                  refine zr_goto (pc := 155) hV 177 dX12_costBy_155 (by decide) ?_
                  show V 177 [some (ZR 0), some (ZI o), none, some (ZI move), none, some (ZI (σ 23 node)), some (ZI (σ 24 node)), some (ZI v0_105), some (ZI v0_128)] [] 41 σ
                  refine zr_iconst (pc := 177) hV (-1) dX12_costBy_177 rfl ?_
                  exact zr_iret (pc := 178) hV dX12_costBy_178 rfl rfl ⟨rfl, _, rfl, ⟨by decide, by decide⟩, ⟨trivial, (by unfold zq_hid; exact fun h => absurd h (by decide))⟩⟩
          have J127 : (zq_hid (r2 < 5 ∨ σ 21 (σ 23 node) ≠ 0)) → V 127 [some (ZR 0), some (ZI o), none, some (ZI move), none, some (ZI (σ 23 node)), some (ZI (σ 24 node)), some (ZI v0_105), none] [] 41 σ := by
            intro hi127_0
            show V 127 [some (ZR 0), some (ZI o), none, some (ZI move), none, some (ZI (σ 23 node)), some (ZI (σ 24 node)), some (ZI v0_105), none] [] 41 σ
            refine zr_iconst (pc := 127) hV 0 dX12_costBy_127 rfl ?_
            exact J128 0 (by omega) (by have u : r2 < 5 ∨ σ 21 (σ 23 node) ≠ 0 := hi127_0; unfold zq_hid; omega)
          refine zr_icmp_lt (pc := 110) hV 127 dX12_costBy_110 (by decide) (by omega) ⟨by decide, by decide⟩ (fun c23 => ?_) (fun c23 => ?_)
          · refine zr_sub (pc := 127) hV [some (ZR 0), some (ZI o), none, some (ZI move), none, some (ZI (σ 23 node)), some (ZI (σ 24 node)), some (ZI v0_105), none] (⟨rfl, rfl, rfl, rfl, rfl, rfl, trivial⟩) ?_
            exact J127 (by unfold zq_hid; omega)
          · show V 113 [some (ZR 0), some (ZI o), none, some (ZI move), some (ZI r2), some (ZI (σ 23 node)), some (ZI (σ 24 node)), some (ZI v0_105), none] [] 41 σ
            refine zr_aload_n (pc := 113) hV dX12_costBy_113 rfl rfl ?_
            refine zr_getR (pc := 114) hV 38 21 dX12_costBy_114 fX12_87 rfl rfl rfl (by decide) (zx_g38 hσ) (by omega) ?_
            refine zr_iload (pc := 117) hV dX12_costBy_117 rfl ?_
            refine zr_iald (pc := 119) hV dX12_costBy_119 rfl (by decide) rfl (by omega) ?_
            have t24 := zx_ga21 hσ (σ 23 node)
            refine zr_if_ne (pc := 120) hV 127 dX12_costBy_120 (by decide) (by omega) (fun c25 => ?_) (fun c25 => ?_)
            · refine zr_sub (pc := 127) hV [some (ZR 0), some (ZI o), none, some (ZI move), none, some (ZI (σ 23 node)), some (ZI (σ 24 node)), some (ZI v0_105), none] (⟨rfl, rfl, rfl, rfl, rfl, rfl, trivial⟩) ?_
              exact J127 (by unfold zq_hid; omega)
            · show V 123 [some (ZR 0), some (ZI o), none, some (ZI move), some (ZI r2), some (ZI (σ 23 node)), some (ZI (σ 24 node)), some (ZI v0_105), none] [] 41 σ
              refine zr_iconst (pc := 123) hV 1 dX12_costBy_123 rfl ?_
              refine zr_goto (pc := 124) hV 128 dX12_costBy_124 (by decide) ?_
              refine zr_sub (pc := 128) hV [some (ZR 0), some (ZI o), none, some (ZI move), none, some (ZI (σ 23 node)), some (ZI (σ 24 node)), some (ZI v0_105), none] (⟨rfl, rfl, rfl, rfl, rfl, rfl, trivial⟩) ?_
              exact J128 1 (by omega) (by unfold zq_hid; omega)
        have J100 : (zq_hid (r2 = 4 ∨ r2 = 6)) → V 100 [some (ZR 0), some (ZI o), none, some (ZI move), some (ZI r2), some (ZI (σ 23 node)), some (ZI (σ 24 node)), none, none] [] 41 σ := by
          intro hi100_0
          show V 100 [some (ZR 0), some (ZI o), none, some (ZI move), some (ZI r2), some (ZI (σ 23 node)), some (ZI (σ 24 node)), none, none] [] 41 σ
          refine zr_iconst (pc := 100) hV 1 dX12_costBy_100 rfl ?_
          refine zr_goto (pc := 101) hV 105 dX12_costBy_101 (by decide) ?_
          exact J105 1 (by omega) (by have u : r2 = 4 ∨ r2 = 6 := hi100_0; unfold zq_hid; omega)
        refine zr_icmp_eq (pc := 90) hV 100 dX12_costBy_90 (by decide) (by omega) ⟨by decide, by decide⟩ (fun c26 => ?_) (fun c26 => ?_)
        · refine zr_sub (pc := 100) hV [some (ZR 0), some (ZI o), none, some (ZI move), some (ZI r2), some (ZI (σ 23 node)), some (ZI (σ 24 node)), none, none] (⟨rfl, rfl, rfl, rfl, rfl, rfl, trivial⟩) ?_
          exact J100 (by unfold zq_hid; omega)
        · show V 93 [some (ZR 0), some (ZI o), some (ZI node), some (ZI move), some (ZI r2), some (ZI (σ 23 node)), some (ZI (σ 24 node)), none, none] [] 41 σ
          refine zr_iload (pc := 93) hV dX12_costBy_93 rfl ?_
          refine zr_bipush (pc := 95) hV 6 dX12_costBy_95 (by decide) ?_
          refine zr_icmp_ne (pc := 97) hV 104 dX12_costBy_97 (by decide) (by omega) ⟨by decide, by decide⟩ (fun c27 => ?_) (fun c27 => ?_)
          · show V 104 [some (ZR 0), some (ZI o), some (ZI node), some (ZI move), some (ZI r2), some (ZI (σ 23 node)), some (ZI (σ 24 node)), none, none] [] 41 σ
            refine zr_iconst (pc := 104) hV 0 dX12_costBy_104 rfl ?_
            refine zr_sub (pc := 105) hV [some (ZR 0), some (ZI o), none, some (ZI move), some (ZI r2), some (ZI (σ 23 node)), some (ZI (σ 24 node)), none, none] (⟨rfl, rfl, rfl, rfl, rfl, rfl, trivial⟩) ?_
            exact J105 0 (by omega) (by unfold zq_hid; omega)
          · refine zr_sub (pc := 100) hV [some (ZR 0), some (ZI o), none, some (ZI move), some (ZI r2), some (ZI (σ 23 node)), some (ZI (σ 24 node)), none, none] (⟨rfl, rfl, rfl, rfl, rfl, rfl, trivial⟩) ?_
            exact J100 (by unfold zq_hid; omega)
      · show V 69 [some (ZR 0), some (ZI o), some (ZI node), some (ZI move), some (ZI r2), none, none, none, none] [] 41 σ
        refine zr_iconst (pc := 69) hV (-1) dX12_costBy_69 rfl ?_
        exact zr_iret (pc := 70) hV dX12_costBy_70 rfl rfl ⟨rfl, _, rfl, ⟨by decide, by decide⟩, ⟨trivial, (by unfold zq_hid; exact fun h => absurd h (by decide))⟩⟩
  · show V 17 [some (ZR 0), some (ZI o), some (ZI node), some (ZI move), some (ZI r2), none, none, none, none] [] 41 σ
    refine zr_iload (pc := 17) hV dX12_costBy_17 rfl ?_
    refine zr_iconst (pc := 19) hV 1 dX12_costBy_19 rfl ?_
    refine zr_icmp_ne (pc := 20) hV 41 dX12_costBy_20 (by decide) (by omega) ⟨by decide, by decide⟩ (fun c28 => ?_) (fun c28 => ?_)
    · show V 41 [some (ZR 0), some (ZI o), some (ZI node), some (ZI move), some (ZI r2), none, none, none, none] [] 41 σ
      refine zr_iconst (pc := 41) hV (-1) dX12_costBy_41 rfl ?_
      show V 42 [some (ZR 0), some (ZI o), some (ZI node), some (ZI move), some (ZI r2), none, none, none, none] [ZI (-1)] 41 σ
      exact zr_iret (pc := 42) hV dX12_costBy_42 rfl rfl ⟨rfl, _, rfl, ⟨by decide, by decide⟩, ⟨trivial, (by unfold zq_hid; exact fun h => absurd h (by decide))⟩⟩
    · show V 23 [some (ZR 0), some (ZI o), some (ZI node), some (ZI move), some (ZI r2), none, none, none, none] [] 41 σ
      refine zr_aload_n (pc := 23) hV dX12_costBy_23 rfl rfl ?_
      refine zr_iload_n (pc := 24) hV dX12_costBy_24 rfl rfl ?_
      refine zr_iload_n (pc := 25) hV dX12_costBy_25 rfl rfl ?_
      refine zr_callVp (pc := 26) hV [ZI o, ZI node] (st := []) (c_X12_hasRoom (σ := σ) hσ o node (by omega) (by omega)) dX12_costBy_26 mX12_431 rfl (by decide) (by decide) (Nat.le_of_ble_eq_true rfl) (Nat.le_refl _) (fun r26 hr26 pr26 => ?_)
      refine zr_if_eq (pc := 29) hV 41 dX12_costBy_29 (by decide) (by omega) (fun c29 => ?_) (fun c29 => ?_)
      · show V 41 [some (ZR 0), some (ZI o), some (ZI node), some (ZI move), some (ZI r2), none, none, none, none] [] 41 σ
        refine zr_iconst (pc := 41) hV (-1) dX12_costBy_41 rfl ?_
        show V 42 [some (ZR 0), some (ZI o), some (ZI node), some (ZI move), some (ZI r2), none, none, none, none] [ZI (-1)] 41 σ
        exact zr_iret (pc := 42) hV dX12_costBy_42 rfl rfl ⟨rfl, _, rfl, ⟨by decide, by decide⟩, ⟨trivial, (by unfold zq_hid; exact fun h => absurd h (by decide))⟩⟩
      · show V 32 [some (ZR 0), some (ZI o), some (ZI node), some (ZI move), some (ZI r2), none, none, none, none] [] 41 σ
        refine zr_aload_n (pc := 32) hV dX12_costBy_32 rfl rfl ?_
        refine zr_getR (pc := 33) hV 10 7 dX12_costBy_33 fX12_38 rfl rfl rfl (by decide) (zx_g10 hσ) (by omega) ?_
        refine zr_iload_n (pc := 36) hV dX12_costBy_36 rfl rfl ?_
        refine zr_iald (pc := 37) hV dX12_costBy_37 rfl (by decide) rfl (by omega) ?_
        have t30 := zx_ga7 hσ o
        refine zr_goto (pc := 38) hV 42 dX12_costBy_38 (by decide) ?_
        show V 42 [some (ZR 0), some (ZI o), some (ZI node), some (ZI move), some (ZI r2), none, none, none, none] [ZI (σ 7 o)] 41 σ
        exact zr_iret (pc := 42) hV dX12_costBy_42 rfl rfl ⟨rfl, _, rfl, (by omega), ⟨trivial, (by unfold zq_hid; exact fun _ => ⟨fun _ => by omega, fun h => absurd (by omega) h⟩)⟩⟩
