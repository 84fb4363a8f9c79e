/-! ===== CODE and SHEETS: the tie ===== -/
theorem zu_HV {σ ρ : zq_S} (h1 : zc_T σ) (h3 : zx_T ρ) (hU : zx_U ρ) (ht : zt σ ρ) (hT3 : zu_T3 σ ρ) (hT6 : zu_T6 σ ρ) (hT7 : zu_T7 σ) (hT8 : zu_T8 ρ) : zm_HV σ ρ := ⟨hT6.1, fun q => ⟨(zu_pV h1 h3 hU hT3 hT6 hT7).2 q, h3, hT3, ⟨ht.1.2.1, ht.1.2.2.2.2, q⟩, hT8.1⟩⟩
theorem zu_T9_sh {σ τ ρ π : zq_S} {sheet lane n : Int} (g : ∀ s i, 0 ≤ s → s ≤ 3 → 0 ≤ i → i < 30 → τ (280 + s) i = if 0 ≤ sheet ∧ sheet ≤ 3 ∧ 0 ≤ lane ∧ lane ≤ 2 ∧ n ≤ 30 ∧ 0 ≤ n ∧ s = sheet then 0 else σ (280 + s) i) (k : ∀ j, π 40 j = if (0 ≤ sheet ∧ sheet ≤ 3 ∧ 0 ≤ lane ∧ lane ≤ 2 ∧ n ≤ 30 ∧ 0 ≤ n) ∧ 30 * sheet ≤ j ∧ j < 30 * sheet + 30 then 0 else ρ 40 j) (h : zu_T9 σ ρ) : zu_T9 τ π := fun s i s0 s3 i0 i1 => by
  rw [g s i s0 s3 i0 i1, k]
  by_cases c : 0 ≤ sheet ∧ sheet ≤ 3 ∧ 0 ≤ lane ∧ lane ≤ 2 ∧ n ≤ 30 ∧ 0 ≤ n ∧ s = sheet
  · rw [if_pos c, if_pos (by omega)]
  · rw [if_neg c, if_neg (by omega)]
    exact h s i s0 s3 i0 i1
theorem zu_T9_it {σ τ ρ π : zq_S} {sheet lane x v : Int} (hl : ∀ j, 0 ≤ j → j ≤ 3 → σ 277 j = ρ 38 j ∧ σ 278 j = ρ 39 j) (hz : ∀ j, ρ 39 j ≤ 30) (g : ∀ s j, 0 ≤ s → s ≤ 3 → τ (280 + s) j = if (0 ≤ sheet ∧ sheet ≤ 3 ∧ 0 ≤ lane ∧ lane ≤ 2 ∧ σ 277 sheet = lane ∧ 0 ≤ x ∧ x ≤ σ 278 sheet - 1) ∧ s = sheet ∧ j = x then zu_cut lane v else σ (280 + s) j) (k : ∀ j, π 40 j = if (0 ≤ sheet ∧ sheet ≤ 3 ∧ 0 ≤ lane ∧ lane ≤ 2 ∧ ρ 38 sheet = lane ∧ 0 ≤ x ∧ x ≤ ρ 39 sheet - 1) ∧ j = 30 * sheet + x then zu_cut lane v else ρ 40 j) (h : zu_T9 σ ρ) : zu_T9 τ π := fun s i s0 s3 i0 i1 => by
  rw [g s i s0 s3, k]
  by_cases b : 0 ≤ sheet ∧ sheet ≤ 3
  · have e := hl sheet b.1 b.2
    have z := hz sheet
    rw [e.1, e.2]
    by_cases c : (0 ≤ sheet ∧ sheet ≤ 3 ∧ 0 ≤ lane ∧ lane ≤ 2 ∧ ρ 38 sheet = lane ∧ 0 ≤ x ∧ x ≤ ρ 39 sheet - 1) ∧ s = sheet ∧ i = x
    · rw [if_pos c, if_pos (by omega)]
    · rw [if_neg c, if_neg (by omega)]
      exact h s i s0 s3 i0 i1
  · rw [if_neg (fun q => b ⟨q.1.1, q.1.2.1⟩), if_neg (fun q => b ⟨q.1.1, q.1.2.1⟩)]
    exact h s i s0 s3 i0 i1
theorem zu_start4 {σ ρ : zq_S} (h : zu_C1 σ) (k : zu_R1 ρ) : zu_T4 σ ρ := by
  obtain ⟨σ0, HI, hF, -, -, h139, -⟩ := h
  obtain ⟨-, ⟨-, r14⟩, -⟩ := k
  exact fun i i0 i1 => by rw [h139 i i0 i1, r14 i i0 i1]
theorem zu_start8 {σ ρ : zq_S} (h : zu_C1 σ) (k : zu_R1 ρ) : zu_T8 ρ := by
  obtain ⟨⟨-, r1, -, -, -, -, -, r35, r36, -⟩, -⟩ := k
  exact zu_T8_0 r36 (by rw [r1, r35]; decide)
theorem zu_start9 {σ ρ : zq_S} (h : zu_C1 σ) (k : zu_R1 ρ) : zu_T9 σ ρ := by
  obtain ⟨σ0, HI, hF, -⟩ := h
  obtain ⟨-, -, -, hz⟩ := k
  intro s i s0 s3 i0 i1
  have ke := zc_e280 (i := s) s0 (by omega)
  rw [hF (280 + s) i (zc_out_ar ke rfl), HI (280 + s) i (by omega) (by omega), zc_Ie280 ke, hz 40 _ (by decide) (by decide) (by decide) (by decide)]
  rfl
