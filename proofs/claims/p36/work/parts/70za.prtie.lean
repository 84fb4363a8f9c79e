/-! ===== prices: the tie ===== -/
theorem zu_T6_0 {σ ρ : zq_S} (h : σ 255 3 = 0) (k : ρ 0 36 = 0) : zu_T6 σ ρ := ⟨by rw [h, k], fun q => absurd q (by omega)⟩
section ZPT
variable {σ ρ : zq_S} (h1 : zc_T σ) (h3 : zx_T ρ) (hT3 : zu_T3 σ ρ)
theorem zu_P2 (h1 : zc_T σ) (h3 : zx_T ρ) (hT3 : zu_T3 σ ρ) : zp_P2 σ := fun o o0 o1 => by
  have o2 : o < ρ 0 3 := by rw [← hT3.1.1]; exact o1
  have q := hT3.2.2.1 o o0 o2
  have g7 := zx_ga7 h3 o
  have e7 := q.2.2.1.1.2.2.2
  have bc := (zu_bc h3 q.2.1 (f := 3) (by omega) (by omega)).1
  have g2 := zx_g2 h3
  have cb := zx_cnt_b ρ o 3 (ρ 0 2) (by omega)
  refine ⟨by omega, by omega, by omega⟩
theorem zu_pV (h1 : zc_T σ) (h3 : zx_T ρ) (hU : zx_U ρ) (hT3 : zu_T3 σ ρ) (hT6 : zu_T6 σ ρ) (hT7 : zu_T7 σ) : zp_V σ ρ := ⟨hT6.1, fun q => ⟨zp_T_of h1 h3 hT3 hT7, (hU q).2, fun o => zx_ga7 h3 o, fun i => zx_ga21 h3 i, fun i => zx_ga22 h3 i, ⟨(hT6.2 q).1, (hU q).1, (zx_g37 h3).2⟩, fun o o0 o1 => (zu_P2 h1 h3 hT3 o o0 o1).2.2, (hT6.2 q).2⟩⟩
theorem zu_SD (h1 : zc_T σ) (h3 : zx_T ρ) (hU : zx_U ρ) (hT3 : zu_T3 σ ρ) (hT6 : zu_T6 σ ρ) (hT7 : zu_T7 σ) : σ 255 3 = 1 → zp_SD σ (σ 255 1) := fun q => by
  have hV := zu_pV h1 h3 hU hT3 hT6 hT7
  have hW := hV.2 (by rw [← hV.1]; exact q)
  intro i i0 i1 k1 k2
  have n5 := hW.2.2.2.2.2.1.1
  have i2 : i < ρ 0 37 := by omega
  have nd := zp_W_nd hW i0 i2
  have k : ρ 21 i = 2 := by
    have a := hW.2.2.2.1 i
    have b1 := nd.1
    have b2 := nd.2.1
    omega
  have z := zp_W_tr hW i0 i2 k
  have y := nd.2.2.2 k
  omega
end ZPT
theorem zu_start6 {σ ρ : zq_S} (h : zu_C1 σ) (k : zu_R1 ρ) : zu_T6 σ ρ := by
  obtain ⟨σ0, HI, hF, ⟨-, -, -, -, -, -, -, c7, -⟩, -⟩ := h
  obtain ⟨⟨-, -, -, -, -, -, -, -, r36, -⟩, -⟩ := k
  exact zu_T6_0 c7 r36
theorem zu_start7 {σ ρ : zq_S} (h : zu_C1 σ) (k : zu_R1 ρ) : zu_T7 σ := by
  obtain ⟨σ0, HI, hF, ⟨-, -, -, c3, -⟩, -⟩ := h
  exact zu_T7_0 c3

