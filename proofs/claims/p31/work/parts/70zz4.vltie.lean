/-! ===== what a SUM is: the tie ===== -/
/-- what is ahead of the sum's entries -/
theorem zv_tr {ρ : zq_S} (hU : zx_U ρ) (q : ρ 0 36 = 1) : zv_c (ρ 21) (ρ 23) (ρ 24) (ρ 0 37) := fun j j0 j1 k => by
  obtain ⟨-, f, h⟩ := hU q
  obtain ⟨f0, f1, h2, -⟩ := h j j0 j1
  obtain ⟨r, -, -, l0, l1⟩ := h2 k
  omega
theorem zv_pcU {σ ρ : zq_S} (hσ : zc_T σ) (hρ : zx_T ρ) (hU : zx_U ρ) (hT5 : zu_T5 σ ρ) (hT6 : zu_T6 σ ρ) : σ 255 3 = 1 → zv_pc σ (σ 255 1) := fun q => by
  have e := hT6.1
  obtain ⟨e5, nd⟩ := hT6.2 (by omega)
  have tr := zv_tr hU (by omega)
  have ok := (zs_ok_ρ hT5 (zc_g140_5 hσ zc_s140).1).1
  refine ⟨fun i i0 i1 => ?_, fun j j0 j1 => ?_⟩
  · have z := ok.2.2.1 i i0 (by omega)
    rw [zw_cs_r (a := 142) rfl (by omega)] at z
    have m := ok.2.2.2.2.2.1.2.1
    omega
  · obtain ⟨n0, n1, n2, k0, k2⟩ := nd j j0 (by omega)
    rw [zs_rt_25] at n0 n1 n2 k0 k2
    rw [zs_rt_26] at n0 n1 n2
    rw [zs_rt_27, zs_rt_28] at n2
    have z22 := zx_ga22 hρ j
    refine ⟨fun h => ?_, fun h1 h2 => ?_⟩
    · by_cases c : ρ 21 j = 1
      · rw [(n1 c).2]; exact z22
      · by_cases c0 : ρ 21 j = 0
        · have := (n0 c0).1; omega
        · have z := n2 (by omega)
          rw [h, show zt_sn 2 = 0 from rfl] at z
          omega
    · have c0 : ρ 21 j ≠ 0 := fun c => h1 (n0 c).1
      have c1 : ρ 21 j ≠ 1 := fun c => h2 (n1 c).1
      have z := n2 (by omega)
      have y := tr j j0 (by omega) (by omega)
      omega
theorem zu_valueL {σ τ ρ π : zq_S} {u v : Int} (hσ : zc_T σ) (hρ : zx_T ρ) (hU : zx_U ρ) (e0 : σ 3 0 = ρ 0 0) (hT5 : zu_T5 σ ρ) (hT6 : zu_T6 σ ρ) (hT8 : zu_T8 ρ) (hTA : zu_TA ρ) (g : (σ 255 3 ≠ 1 → v = -2) ∧ (σ 255 3 = 1 → zv_o (zv_ce σ (σ 255 1) (zx_p2 (σ 3 0) - 1)) (σ (σ 255 1) 5) (τ (σ 255 1 + 5)) ∧ (0 < σ (σ 255 1) 5 → v = τ (σ 255 1 + 5) (σ (σ 255 1) 5 - 1)))) (k : (ρ 0 36 ≠ 1 → u = -2) ∧ (ρ 0 36 = 1 → zv_o (zv_e (ρ 21) (ρ 22) (ρ 23) (ρ 24) (ρ 15) (zx_p2 (ρ 0 0) - 1)) (ρ 0 37) (π 37) ∧ u = π 37 (ρ 0 37 - 1))) : u = v := by
  have e := hT6.1
  by_cases q : ρ 0 36 = 1
  · obtain ⟨g1, g2⟩ := g.2 (by omega)
    obtain ⟨k1, k2⟩ := k.2 q
    obtain ⟨e5, nd⟩ := hT6.2 q
    have n1 := (hU q).1
    have tr := zv_tr hU q
    have ok := (zs_ok_ρ hT5 (zc_g140_5 hσ zc_s140).1)
    have m0 := hT5.1
    have mk := zs_mk (zx_g0 hρ)
    have K8 := zs_k8 (zx_g1 hρ)
    rw [e5] at g1 g2
    rw [e0] at g1
    have g2 := g2 (by omega)
    -- the reference's words are words
    have bd : ∀ j, 0 ≤ j → j < ρ 0 37 → 0 ≤ π 37 j ∧ π 37 j ≤ zx_p2 (ρ 0 0) - 1 := fun j j0 j1 => by
      obtain ⟨a1, a2, a3⟩ := k1 j j0 j1
      have z21 := zx_ga21 hρ j
      have z22 := zx_ga22 hρ j
      refine ⟨a2, ?_⟩
      rw [a1]
      unfold zv_e
      by_cases c0 : ρ 21 j = 0
      · rw [if_pos c0]
        have v8 := hT8.1 q j j0 j1 c0
        have z := ok.2.2.2.1 (ρ 22 j) z22.1 (by omega)
        omega
      · rw [if_neg c0]
        by_cases c1 : ρ 21 j = 1
        · rw [if_pos c1]; exact hTA q j j0 j1 c1
        · rw [if_neg c1]; exact (mk.2.1 _).2
    have eq : ∀ n : Nat, ∀ j : Int, 0 ≤ j → j < (n : Int) → j < ρ 0 37 → τ (σ 255 1 + 5) j = π 37 j := by
      intro n
      induction n with
      | zero => intro j j0 j1; omega
      | succ n ih =>
        intro j j0 j1 j2
        rw [(g1 j j0 j2).1, (k1 j j0 j2).1]
        obtain ⟨n0, n1', n2, k0, k2'⟩ := nd j j0 j2
        rw [zs_rt_25] at n0 n1' n2 k0 k2'
        rw [zs_rt_26] at n0 n1' n2
        rw [zs_rt_27, zs_rt_28] at n2
        have z22 := zx_ga22 hρ j
        unfold zv_ce zv_e
        by_cases c0 : ρ 21 j = 0
        · obtain ⟨x1, x2⟩ := n0 c0
          have v8 := hT8.1 q j j0 j2 c0
          have a7 := zq_and_mask (ρ 22 j) 3 7 8 (by decide) (by decide) (by decide)
          rw [if_pos x1, if_pos c0, x2, show zq_and (ρ 22 j) 7 = ρ 22 j by omega, zs_row_ρ hT5 z22.1 (by omega), zw_cs_r (a := 142) rfl (by omega)]
        · by_cases c1 : ρ 21 j = 1
          · obtain ⟨x1, x2⟩ := n1' c1
            rw [if_neg (by omega), if_pos x1, if_neg c0, if_pos c1, x2]
          · obtain ⟨x1, x2, x3, x4⟩ := n2 (by omega)
            obtain ⟨l0, l1, r0, r1⟩ := tr j j0 j2 (by omega)
            have w1 : σ (σ 255 1 + 1) j ≠ 1 := fun h => by rw [h, show zt_sn 1 = 0 from rfl] at x1; omega
            have w2 : σ (σ 255 1 + 1) j ≠ 2 := fun h => by rw [h, show zt_sn 2 = 0 from rfl] at x1; omega
            rw [if_neg w1, if_neg w2, if_neg c0, if_neg c1, x3, x4, ih _ l0 (by omega) (by omega), ih _ r0 (by omega) (by omega), ← x1]
            have okm := ok.2
            rw [m0] at okm
            exact zw_cmb okm (bd _ l0 (by omega)) (bd _ r0 (by omega)) (by omega)
    rw [g2, k2]
    exact (eq (ρ 0 37).toNat _ (by omega) (by omega) (by omega)).symm
  · rw [g.1 (by omega), k.1 q]

