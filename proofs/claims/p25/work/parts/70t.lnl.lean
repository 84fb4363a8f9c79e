/-! ===== a LINE read, side by side ===== -/
theorem zu_dup1 {σ ρ : zq_S} {t : Int → Int} {n i : Int} (h : zu_T3 σ ρ) (i0 : 0 ≤ i) (i1 : i < ρ 0 3) : σ (σ 10 i) 0 = zt_na t (zt_z0 t n) (zt_n0 t n) ↔ ρ 1 i = zt_nb t (zt_z0 t n) (zt_n0 t n) := by
  have a4 := (h.2.2.1 i i0 i1).1
  by_cases hz : zt_n0 t n = 0
  · have q := zu_nt_nz a4
    rw [hz, zt_na_0, zt_nb_0]
    omega
  · have nt : zu_nt (zt_na t (zt_z0 t n) (zt_n0 t n)) (zt_nb t (zt_z0 t n) (zt_n0 t n)) := zu_nt_s hz
    exact zu_nt_u a4 nt
theorem zu_nt_c {c r : Int} (h : zu_nt c r) : 1 ≤ r ∧ r ≤ 19682 := by
  obtain ⟨x, y, z, hx, hy, hz, hxy, er, ec⟩ := zu_nt_d h
  omega
theorem zu_bc8 {σ ρ : zq_S} {a o f : Int} (hx : zx_T ρ) (hB : zx_B ρ o) (h : zu_lk σ ρ a o) (f0 : 0 ≤ f) (f3 : f ≤ 3) : zt_bc (σ (a + 1) f) ≤ 8 := by
  rw [(zu_bc hx h f0 f3).1]
  obtain ⟨b0, b1, b2, b3⟩ := hB
  have hf : f = 0 ∨ f = 1 ∨ f = 2 ∨ f = 3 := by omega
  rcases hf with rfl | rfl | rfl | rfl <;> omega
theorem zu_ln_ok {H : Int → Bool} {X : Int → Int} {t : Int → Int} {n a k : Int} (k0 : 0 ≤ k) (h : (zu_ln H X t n a (k + 1)).2 = true) : (zu_ln H X t n a k).2 = true ∧ (H k = true → 0 ≤ zu_lv H X t n a k) := by
  by_cases c : (zu_ln H X t n a k).2 = true
  · refine ⟨c, fun hH => ?_⟩
    by_cases d : zu_an H k = true ∧ zt_tkR t n 44 (zu_ln H X t n a k).1 = 0
    · rw [zu_ln_c k0 c hH d.1 d.2] at h
      cases h
    · rw [zu_ln_m k0 c hH d] at h
      exact of_decide_eq_true h
  · rw [zu_ln_f (k := k) k0 (Bool.eq_false_iff.mpr c) (by omega)] at h
    exact absurd h c
theorem zu_ln_all {H : Int → Bool} {X : Int → Int} {t : Int → Int} {n a : Int} (h : (zu_ln H X t n a 4).2 = true) : ∀ f, 0 ≤ f → f ≤ 3 → H f = true → 0 ≤ zu_lv H X t n a f := by
  have h3 := zu_ln_ok (k := 3) (by decide) h
  have h2 := zu_ln_ok (k := 2) (by decide) h3.1
  have h1 := zu_ln_ok (k := 1) (by decide) h2.1
  have h0 := zu_ln_ok (k := 0) (by decide) h1.1
  intro f f0 f3 hH
  have hf : f = 0 ∨ f = 1 ∨ f = 2 ∨ f = 3 := by omega
  rcases hf with rfl | rfl | rfl | rfl
  · exact h0.2 hH
  · exact h1.2 hH
  · exact h2.2 hH
  · exact h3.2 hH
theorem zu_lineL {σ ρ : zq_S} {v u : Int} (hx : zx_T ρ) (h2 : zu_T2 σ ρ) (h : zu_T3 σ ρ) (gw : zq_hid (((∀ i, 0 ≤ i → i < σ 3 3 → σ (σ 10 i) 0 ≠ zt_na (σ 2) (zt_z0 (σ 2) (σ 1 1)) (zt_n0 (σ 2) (σ 1 1))) ∧ v = -20 - zt_z0 (σ 2) (σ 1 1)) ∨ (∃ o, 0 ≤ o ∧ o < σ 3 3 ∧ σ (σ 10 o) 0 = zt_na (σ 2) (zt_z0 (σ 2) (σ 1 1)) (zt_n0 (σ 2) (σ 1 1)) ∧ (∀ i, 0 ≤ i → i < o → σ (σ 10 i) 0 ≠ zt_na (σ 2) (zt_z0 (σ 2) (σ 1 1)) (zt_n0 (σ 2) (σ 1 1))) ∧ zu_la (zu_cln σ (σ 10 o) (σ 2) (σ 1 1) 4) (σ 2) (σ 1 1) (zu_cbt σ (σ 10 o) (σ 2) (σ 1 1) 4) v))) (kw : zq_hid (((∀ i, 0 ≤ i → i < ρ 0 3 → ρ 1 i ≠ zt_nb (ρ 10) (zt_z0 (ρ 10) (ρ 0 14)) (zt_n0 (ρ 10) (ρ 0 14))) ∧ u = -20 - zt_z0 (ρ 10) (ρ 0 14)) ∨ (∃ o, 0 ≤ o ∧ o < ρ 0 3 ∧ ρ 1 o = zt_nb (ρ 10) (zt_z0 (ρ 10) (ρ 0 14)) (zt_n0 (ρ 10) (ρ 0 14)) ∧ (∀ i, 0 ≤ i → i < o → ρ 1 i ≠ zt_nb (ρ 10) (zt_z0 (ρ 10) (ρ 0 14)) (zt_n0 (ρ 10) (ρ 0 14))) ∧ ∃ V : Int → Int, (∀ f, 0 ≤ f → f ≤ 3 → zu_rH ρ o f = true → V f = zu_rlv ρ o (ρ 10) (ρ 0 14) f) ∧ zu_la (zu_rln ρ o (ρ 10) (ρ 0 14) 4) (ρ 10) (ρ 0 14) (zu_rbt ρ o V (ρ 0 2)) u))) : u = v := by
  have et : σ 2 = ρ 10 := funext h2.2
  have e := h.1.1
  unfold zq_hid at gw kw
  rw [et, h2.1, e] at gw
  have zb := zx_g2 hx
  have dd := fun i (i0 : 0 ≤ i) (i1 : i < ρ 0 3) => zu_dup1 (t := ρ 10) (n := ρ 0 14) h i0 i1
  rcases gw with ⟨g1, g2⟩ | ⟨o, o0, o1, o2, o3, gl⟩
  · rcases kw with ⟨k1, k2⟩ | ⟨o, o0, o1, o2, -⟩
    · omega
    · exact absurd ((dd o o0 o1).mpr o2) (g1 o o0 o1)
  · rcases kw with ⟨k1, k2⟩ | ⟨p, p0, p1, p2, p3, V, hV, kl⟩
    · exact absurd ((dd o o0 o1).mp o2) (k1 o o0 o1)
    · have eo : o = p := by
        have n1 : ¬ o < p := fun q => p3 o o0 q ((dd o o0 o1).mp o2)
        have n2 : ¬ p < o := fun q => o3 p p0 q ((dd p p0 p1).mpr p2)
        omega
      subst eo
      have lk := (h.2.2.1 o o0 o1).2.1
      have hHX : ∀ f : Int, 0 ≤ f → f ≤ 3 → zu_cH σ (σ 10 o) f = zu_rH ρ o f ∧ zu_cX σ (σ 10 o) f = zu_rX ρ o f := fun f f0 f3 => by
        have b := zu_bc hx lk f0 f3
        refine ⟨?_, by unfold zu_cX zu_rX; rw [b.1]⟩
        unfold zu_cH zu_rH
        refine decide_eq_decide.mpr ⟨fun q => ?_, fun q e => ?_⟩
        · have : ¬ zx_cnt ρ o f (ρ 0 2) = 0 := fun e => q (b.2.1.mpr e)
          omega
        · have := b.2.1.mp e
          omega
      have el : zu_cln σ (σ 10 o) (ρ 10) (ρ 0 14) 4 = zu_rln ρ o (ρ 10) (ρ 0 14) 4 := zu_lnF_c 4 (fun i i0 i1 => hHX i i0 (by omega))
      have ev : ∀ f, 0 ≤ f → f ≤ 3 → zu_clv σ (σ 10 o) (ρ 10) (ρ 0 14) f = zu_rlv ρ o (ρ 10) (ρ 0 14) f := fun f f0 f3 => zu_lv_c f0 (fun i i0 i1 => hHX i i0 (by omega))
      rw [el] at gl
      by_cases c : (zu_rln ρ o (ρ 10) (ρ 0 14) 4).2 = true
      · by_cases d : zt_nx (ρ 10) (ρ 0 14) (zu_rln ρ o (ρ 10) (ρ 0 14) 4).1 = -1
        · have eb : zu_cbt σ (σ 10 o) (ρ 10) (ρ 0 14) 4 = zu_rbt ρ o V (ρ 0 2) := by
            refine zu_bits hx lk (fun f f0 f3 hH => ?_) (fun f f0 f3 hH => (hV f f0 f3 hH).trans (ev f f0 f3).symm)
            rw [ev f f0 f3]
            have nn : 0 ≤ zu_rlv ρ o (ρ 10) (ρ 0 14) f := zu_ln_all c f f0 f3 hH
            have ub : zu_rlv ρ o (ρ 10) (ρ 0 14) f ≤ zu_rX ρ o f ∨ zu_rlv ρ o (ρ 10) (ρ 0 14) f = -1 := zt_nuR_b _ _ _ _
            have cb := zx_cnt_b ρ o f (ρ 0 2) (by omega)
            have pl := zx_p2_le (m := zx_cnt ρ o f (ρ 0 2)) (n := 12) (by omega)
            have e12 := zx_p2_12
            unfold zu_rX at ub
            omega
          have q1 := (gl.2 c).2 d
          have q2 := (kl.2 c).2 d
          rw [q1, q2, eb]
        · have q1 := (gl.2 c).1 d
          have q2 := (kl.2 c).1 d
          omega
      · have c := Bool.eq_false_iff.mpr c
        have q1 := gl.1 c
        have q2 := kl.1 c
        omega
