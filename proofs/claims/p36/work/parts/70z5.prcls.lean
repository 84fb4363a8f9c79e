/-! ===== prices: as the class holds what they rest on ===== -/
theorem zu_form_x {σ ρ : zq_S} {a o : Int} (hT : zc_T σ) (ka : zc_kd a = 4) (hx : zx_T ρ) (h : zu_or σ ρ a o) : zu_form σ a = zx_form ρ o := by
  have g3 := zx_ga3 hx o
  obtain ⟨_, hl, ⟨⟨c4, c5, c6, c11⟩, _, hr, _⟩, _⟩ := h
  have fl := zu_flfm hx hl
  unfold zu_form zx_form
  rw [fl, c4, c6]
  by_cases h1 : ρ 3 o = 0
  · by_cases h2 : ρ 5 o = 1
    · have r := hr 0 (by omega) (by omega)
      rw [show 18 * o + 6 * 0 = 18 * o by omega] at r
      obtain ⟨⟨r0, r1, r2, r3, r4, r5⟩, rs⟩ := r
      have z3 : 0 ≤ σ (a + 3) 0 := (zc_ga7 hT (zc_p4_3 ka) 0).1
      have z5 : 0 ≤ σ (a + 5) 0 := (zc_ga9 hT (zc_p4_5 ka) 0).1
      have e3 : zt_rc (σ (a + 3) 0) = 10 ∧ 16 ≤ σ (a + 3) 0 ∨ zt_rc (σ (a + 3) 0) = σ (a + 3) 0 := by
        by_cases c : 16 ≤ σ (a + 3) 0
        · exact Or.inl ⟨(zt_rc_b _).1 c, c⟩
        · exact Or.inr ((zt_rc_b _).2 c)
      have e5 : zt_rc (σ (a + 5) 0) = 10 ∧ 16 ≤ σ (a + 5) 0 ∨ zt_rc (σ (a + 5) 0) = σ (a + 5) 0 := by
        by_cases c : 16 ≤ σ (a + 5) 0
        · exact Or.inl ⟨(zt_rc_b _).1 c, c⟩
        · exact Or.inr ((zt_rc_b _).2 c)
      have sn0 := zt_sn_0
      rw [r0, r1, r3, r4]
      by_cases h3 : σ (a + 2) 0 = 0
      · rw [if_pos ⟨h1, h2, h3⟩, if_neg (show ¬ 0 < ρ 3 o by omega), if_neg (show ¬ ¬ ρ 5 o = 1 by omega), if_neg (show ¬ ¬ σ (a + 2) 0 = 0 by omega)]
        unfold zu_pf zu_sf
        by_cases h4 : σ (a + 4) 0 = 0
        · rw [if_pos h4, if_pos (show zt_sn (σ (a + 4) 0) = 0 ∨ zt_rc (σ (a + 5) 0) < 0 from Or.inl (by rw [h4]; exact sn0))]
          repeat' split
          all_goals omega
        · have h5 : zt_sn (σ (a + 4) 0) ≠ 0 := rs.resolve_left h4
          rw [if_neg h4, if_neg (show ¬ (zt_sn (σ (a + 4) 0) = 0 ∨ zt_rc (σ (a + 5) 0) < 0) by omega)]
          repeat' split
          all_goals omega
      · rw [if_neg (show ¬ (ρ 3 o = 0 ∧ ρ 5 o = 1 ∧ σ (a + 2) 0 = 0) by omega), if_neg (show ¬ 0 < ρ 3 o by omega), if_neg (show ¬ ¬ ρ 5 o = 1 by omega), if_pos h3]
    · rw [if_neg (show ¬ (ρ 3 o = 0 ∧ ρ 5 o = 1 ∧ σ (a + 2) 0 = 0) by omega), if_neg (show ¬ 0 < ρ 3 o by omega), if_pos h2]
  · rw [if_neg (show ¬ (ρ 3 o = 0 ∧ ρ 5 o = 1 ∧ σ (a + 2) 0 = 0) by omega), if_pos (show 0 < ρ 3 o by omega)]
/-- what prices rest on, alike: the ORDERS -/
def zp_T (σ D : zq_S) : Prop := σ 3 3 = D 0 3 ∧ ∀ o, 0 ≤ o → o < σ 3 3 → σ (σ 10 o) 14 = zx_form D o ∧ σ (σ 10 o) 11 = D 7 o ∧ (3 ≤ zx_form D o → zt_sn (σ (σ 10 o + 4) 0) = D 6 (18 * o + 3)) ∧ zt_bc (σ (σ 10 o + 1) 3) = zx_cnt D o 3 (D 0 2) ∧ 0 ≤ D 7 o ∧ D 7 o ≤ 1000
theorem zx_form_3 {ρ : zq_S} {o : Int} (h : 3 ≤ zx_form ρ o) : ρ 5 o = 1 := by
  unfold zx_form at h
  by_cases h2 : ρ 5 o = 1
  · exact h2
  · by_cases h1 : 0 < ρ 3 o
    · rw [if_pos h1] at h
      omega
    · rw [if_neg h1, if_pos h2] at h
      omega
theorem zp_T_of {σ ρ : zq_S} (hT : zc_T σ) (hx : zx_T ρ) (h3 : zu_T3 σ ρ) (h7 : zu_T7 σ) : zp_T σ ρ := by
  have z3 := zc_g3_3 hT zc_s3
  refine ⟨h3.1.1, fun o o0 o1 => ?_⟩
  have ka := zc_ga10 hT zc_s10 o o0 (by omega)
  have q := h3.2.2.1 o o0 (by rw [← h3.1.1]; exact o1)
  have g7 := zx_ga7 hx o
  have ac := q.2.2.1
  refine ⟨(h7 o o0 o1).trans (zu_form_x hT ka hx q), ac.1.2.2.2, fun hf => ?_, ?_, g7.1, g7.2⟩
  · have e5 := zx_form_3 hf
    have r := (ac.2.2.1 0 (by omega) (by omega)).1
    rw [show 18 * o + 6 * 0 = 18 * o by omega] at r
    exact r.2.2.2.1.symm
  · exact (zu_bc hx q.2.1 (by omega) (by omega)).1
theorem zp_shr0 {x k : Int} (hx : 0 ≤ x ∧ x ≤ 255) (hk : 0 ≤ k ∧ k ≤ 12) : zq_shr x k = 0 ↔ x < zx_p2 k := by
  rw [zq_shr_v ⟨hx.1, by omega⟩ ⟨hk.1, by omega⟩]
  have hp : 0 < zx_p2 k := zx_p2_pos k
  show x / zx_p2 k = 0 ↔ x < zx_p2 k
  constructor
  · intro h
    by_cases c : x < zx_p2 k
    · exact c
    · have := Int.le_ediv_of_mul_le (a := 1) (b := x) hp (by omega)
      omega
  · intro h
    exact Int.ediv_eq_zero_of_lt hx.1 h
def zp_LM (σ : zq_S) (x k : Int) : Prop := ∀ D, zp_T σ D → x = zx_lm D k
theorem zp_LM_0 (σ : zq_S) : zp_LM σ (-1) 0 := fun D _ => (zx_lm_0 D).symm
theorem zp_LM_y {σ : zq_S} {x k : Int} (h0 : 0 ≤ k) (h1 : k < σ 3 3) (hx : x < k) (hf : σ (σ 10 k) 14 = 2) (ht : (0 ≤ x → σ (σ 10 k) 11 < σ (σ 10 x) 11)) (h : zp_LM σ x k) : zp_LM σ k (k + 1) := fun D hD => by
  have e := h D hD
  have t := hD.2 k h0 h1
  refine ((zx_lm_s D k h0).1 ⟨by omega, ?_⟩).symm
  rw [← e]
  by_cases c : x < 0
  · exact Or.inl c
  · have t2 := hD.2 x (by omega) (by omega)
    have := ht (by omega)
    exact Or.inr (by omega)
theorem zp_LM_n {σ : zq_S} {x k : Int} (h0 : 0 ≤ k) (h1 : k < σ 3 3) (hx : x < k) (hf : ¬ (σ (σ 10 k) 14 = 2 ∧ (x < 0 ∨ σ (σ 10 k) 11 < σ (σ 10 x) 11))) (h : zp_LM σ x k) : zp_LM σ x (k + 1) := fun D hD => by
  have e := h D hD
  have t := hD.2 k h0 h1
  rw [(zx_lm_s D k h0).2 ?_]
  · exact e
  · rw [← e]
    intro q
    apply hf
    refine ⟨by omega, ?_⟩
    by_cases c : x < 0
    · exact Or.inl c
    · have t2 := hD.2 x (by omega) (by omega)
      exact Or.inr (by have := q.2; omega)
/-- the least LOAD for a word -/
def zp_LL (σ : zq_S) (w x k : Int) : Prop := ∀ D n p mv, zp_T σ D → D 21 n = 1 → D 22 n = w → 0 ≤ w → w ≤ 255 → (x < 0 → zp_b (fun o => zp_c D p mv o n) k = (-1, -1)) ∧ (0 ≤ x → zp_b (fun o => zp_c D p mv o n) k = (D 7 x, x))
theorem zp_LL_0 (σ : zq_S) (w : Int) : zp_LL σ w (-1) 0 := fun D n p mv _ _ _ _ _ => ⟨fun _ => rfl, fun h => absurd h (by omega)⟩
theorem zp_LL_y {σ : zq_S} {w x k : Int} (h0 : 0 ≤ k) (h1 : k < σ 3 3) (hx : x < k) (hb : zt_bc (σ (σ 10 k + 1) 3) ≤ 12) (hf : σ (σ 10 k) 14 = 1) (hr : w < zx_p2 (zt_bc (σ (σ 10 k + 1) 3))) (ht : 0 ≤ x → σ (σ 10 k) 11 < σ (σ 10 x) 11) (h : zp_LL σ w x k) : zp_LL σ w k (k + 1) := fun D n p mv hD h21 h22 w0 w1 => by
  have t := hD.2 k h0 h1
  have bb := zt_bc_b (σ (σ 10 k + 1) 3)
  have rm : zp_rm D k n = true := decide_eq_true ⟨h21, by rw [h22, ← t.2.2.2.1]; exact (zp_shr0 ⟨w0, w1⟩ ⟨bb.1, hb⟩).mpr hr⟩
  have c : zp_c D p mv k n = D 7 k := zp_c_1y h21 ⟨by omega, rm⟩
  have q := h D n p mv hD h21 h22 w0 w1
  refine ⟨fun hk => absurd hk (by omega), fun _ => ?_⟩
  have cond : 0 ≤ zp_c D p mv k n ∧ ((zp_b (fun o => zp_c D p mv o n) k).1 < 0 ∨ zp_c D p mv k n < (zp_b (fun o => zp_c D p mv o n) k).1) := by
    rw [c]
    refine ⟨t.2.2.2.2.1, ?_⟩
    by_cases cx : x < 0
    · rw [q.1 cx]
      exact Or.inl (show (-1 : Int) < 0 by omega)
    · have t2 := hD.2 x (by omega) (by omega)
      have z := ht (by omega)
      rw [q.2 (by omega)]
      exact Or.inr (show D 7 k < D 7 x by omega)
  rw [zp_b_y (c := fun o => zp_c D p mv o n) h0 cond]
  show (zp_c D p mv k n, k) = _
  rw [c]
theorem zp_LL_n {σ : zq_S} {w x k : Int} (h0 : 0 ≤ k) (h1 : k < σ 3 3) (hx : x < k) (hb : zt_bc (σ (σ 10 k + 1) 3) ≤ 12) (hf : ¬ (σ (σ 10 k) 14 = 1 ∧ w < zx_p2 (zt_bc (σ (σ 10 k + 1) 3)) ∧ (x < 0 ∨ σ (σ 10 k) 11 < σ (σ 10 x) 11))) (h : zp_LL σ w x k) : zp_LL σ w x (k + 1) := fun D n p mv hD h21 h22 w0 w1 => by
  have t := hD.2 k h0 h1
  have bb := zt_bc_b (σ (σ 10 k + 1) 3)
  have q := h D n p mv hD h21 h22 w0 w1
  have cond : ¬ (0 ≤ zp_c D p mv k n ∧ ((zp_b (fun o => zp_c D p mv o n) k).1 < 0 ∨ zp_c D p mv k n < (zp_b (fun o => zp_c D p mv o n) k).1)) := by
    by_cases cf : zx_form D k = 1 ∧ zp_rm D k n = true
    · rw [zp_c_1y h21 cf]
      have rm := (of_decide_eq_true cf.2).2
      rw [h22, ← t.2.2.2.1] at rm
      have hw := (zp_shr0 ⟨w0, w1⟩ ⟨bb.1, hb⟩).mp rm
      intro z
      apply hf
      refine ⟨by omega, hw, ?_⟩
      by_cases cx : x < 0
      · exact Or.inl cx
      · have t2 := hD.2 x (by omega) (by omega)
        have z2 := z.2
        rw [q.2 (by omega)] at z2
        have z3 : D 7 x < 0 ∨ D 7 k < D 7 x := z2
        exact Or.inr (by omega)
    · rw [zp_c_1n h21 cf]
      omega
  rw [zp_b_n (c := fun o => zp_c D p mv o n) h0 cond]
  exact q
