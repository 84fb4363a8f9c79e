/-! ===== a whole ORDER, as the reference reads it ===== -/
theorem zt_ns_q {H : Int → Bool} {c : Int} (h : c ≠ 122) : (zt_fi H c = -1 ∧ (zt_ns H c = -1 ∨ zt_ns H c = 5)) ∨ (0 ≤ zt_fi H c ∧ zt_ns H c = zt_fi H c ∧ (zt_fi H c = 3 ↔ c = 105)) := by
  have hb := zt_fi_b H c
  have hl := zt_fl_b c
  by_cases hp : c = 112
  · have e1 : zt_fl c = -1 := by rw [hp]; decide
    have e2 : zt_fi H c = -1 := zt_fi_n (fun q => absurd q.1 (by omega))
    exact Or.inl ⟨e2, Or.inr (zt_ns_p H hp)⟩
  · have e1 := zt_ns_f H h hp
    by_cases hf : 0 ≤ zt_fl c ∧ H (zt_fl c) = true
    · have e2 := zt_fi_y hf
      exact Or.inr ⟨by omega, e1, by rw [e2]; exact hl.2.2.2⟩
    · have e2 := zt_fi_n hf
      exact Or.inl ⟨e2, Or.inl (by omega)⟩
theorem zt_ns_105 {H : Int → Bool} {c : Int} (h : c = 105) : zt_ns H c = -1 ∨ zt_ns H c = 3 := by
  have e1 := zt_ns_f H (c := c) (by omega) (by omega)
  rw [e1]
  unfold zt_fi
  split
  · exact Or.inr (by rw [h]; decide)
  · exact Or.inl rfl
/-- no byte is below 0 -/
theorem zt_nx_m1 {t : Int → Int} {n a : Int} (ht : ∀ i, 0 ≤ i → i < n → 0 ≤ t i) (ha : 0 ≤ a) (h : zt_nx t n a < 0) : zt_nx t n a = -1 := by
  by_cases c : zt_sk t n a < n
  · exfalso
    have h0 : 0 ≤ zt_sk t n a := by
      by_cases c2 : a ≤ n
      · have := zt_sk_b (t := t) c2; omega
      · rw [zt_sk_n (fun q => by omega)]; exact ha
    have h1 := ht _ h0 c
    rw [zt_nx_y c] at h
    omega
  · exact zt_nx_n c
/-- the cells of an ORDER's name, LOOK and GUARD -/
def zt_rk (ρ : zq_S) (o : Int) (t : Int → Int) (n b : Int) : Prop := ρ 1 o = zt_nb t (zt_z0 t n) (zt_n0 t n) ∧ (∀ i, 0 ≤ i → i < b → ρ 2 (12 * o + i) = zt_oV t n i) ∧ ρ 3 o = zt_gK t n (zt_oG t n b) ∧ ρ 4 o = zt_gO (zt_oH t n b) t n (zt_oG t n b) ∧ ρ 0 2 = b ∧ zx_B ρ o
theorem zt_rk_fr {σ τ : zq_S} {o : Int} {t : Int → Int} {n b : Int} (h1 : τ 1 o = σ 1 o) (h2 : ∀ i, τ 2 i = σ 2 i) (h3 : τ 3 o = σ 3 o) (h4 : τ 4 o = σ 4 o) (hb : τ 0 2 = σ 0 2) (h : zt_rk σ o t n b) : zt_rk τ o t n b := ⟨by rw [h1]; exact h.1, fun i a c => by rw [h2]; exact h.2.1 i a c, by rw [h3]; exact h.2.2.1, by rw [h4]; exact h.2.2.2.1, by rw [hb]; exact h.2.2.2.2.1, zx_B_fr h2 hb h.2.2.2.2.2⟩
theorem zt_rk_H {ρ : zq_S} {o : Int} {t : Int → Int} {n b : Int} (hb : 0 ≤ b) (h : zt_rk ρ o t n b) : zt_Hr ρ o = zt_oH t n b := zt_Hr_o hb h.2.2.2.2.1 h.2.1
theorem zt_rac_fr {σ τ : zq_S} {p : Int} {H : Int → Bool} {t : Int → Int} {n a : Int} (h6 : ∀ k, p ≤ k → k < p + 6 → τ 6 k = σ 6 k) (h : zt_rac σ p H t n a) : zt_rac τ p H t n a := ⟨by rw [h6 p (by omega) (by omega)]; exact h.1, by rw [h6 (p + 1) (by omega) (by omega)]; exact h.2.1, by rw [h6 (p + 2) (by omega) (by omega)]; exact h.2.2.1, by rw [h6 (p + 3) (by omega) (by omega)]; exact h.2.2.2.1, by rw [h6 (p + 4) (by omega) (by omega)]; exact h.2.2.2.2.1, by rw [h6 (p + 5) (by omega) (by omega)]; exact h.2.2.2.2.2⟩
/-- ACTS so far; x: more are to come -/
def zt_ri (ρ : zq_S) (o x : Int) (t : Int → Int) (n b : Int) : Prop :=
  (0 ≤ ρ 5 o ∧ ρ 5 o ≤ 3) ∧ (∀ i, 0 ≤ i → i < ρ 5 o → zt_acR (zt_oH t n b) t n (zt_oB t n b i) ≠ 0 ∧ zt_rac ρ (18 * o + 6 * i) (zt_oH t n b) t n (zt_oB t n b i)) ∧
  (x = 1 → ρ 5 o ≤ 2 ∧ ρ 0 15 = zt_oB t n b (ρ 5 o) ∧ ∀ i, 0 ≤ i → i < ρ 5 o → zt_nx t n (zt_acA (zt_oH t n b) t n (zt_oB t n b i)) = 44) ∧
  (x = 0 → ρ 0 15 = zt_oA t n b ∧ ρ 5 o = zt_oN t n b ∧ zt_sR (zt_oH t n b) t n (zt_oS t n b) ≠ 0)
section ZTri
variable {σ τ : zq_S} {o : Int} {t : Int → Int} {n b : Int}
theorem zt_ri_0 (h5 : τ 5 o = 0) (ha : τ 0 15 = zt_oS t n b) : zt_ri τ o 1 t n b := ⟨by omega, fun i h0 h1 => absurd h1 (by omega), fun _ => ⟨by omega, by rw [h5, ha]; rfl, fun i h0 h1 => absurd h1 (by omega)⟩, fun h => absurd h (by decide)⟩
theorem zt_ri_all (h : zt_ri σ o 1 t n b) (h5 : τ 5 o = σ 5 o + 1) (h6 : ∀ k, 18 * o ≤ k → k < 18 * o + 6 * σ 5 o → τ 6 k = σ 6 k) (ha : zt_acR (zt_oH t n b) t n (zt_oB t n b (σ 5 o)) ≠ 0) (hr : zt_rac τ (18 * o + 6 * σ 5 o) (zt_oH t n b) t n (zt_oB t n b (σ 5 o))) : ∀ i, 0 ≤ i → i < τ 5 o → zt_acR (zt_oH t n b) t n (zt_oB t n b i) ≠ 0 ∧ zt_rac τ (18 * o + 6 * i) (zt_oH t n b) t n (zt_oB t n b i) := fun i h0 h1 =>
  if hc : i = σ 5 o then (by rw [hc]; exact ⟨ha, hr⟩) else ⟨(h.2.1 i h0 (by omega)).1, zt_rac_fr (fun k a c => h6 k (by omega) (by omega)) (h.2.1 i h0 (by omega)).2⟩
/-- a comma: another -/
theorem zt_ri_a (h : zt_ri σ o 1 t n b) (h5 : τ 5 o = σ 5 o + 1) (h6 : ∀ k, 18 * o ≤ k → k < 18 * o + 6 * σ 5 o → τ 6 k = σ 6 k) (ha : zt_acR (zt_oH t n b) t n (zt_oB t n b (σ 5 o)) ≠ 0) (hr : zt_rac τ (18 * o + 6 * σ 5 o) (zt_oH t n b) t n (zt_oB t n b (σ 5 o))) (hj : σ 5 o + 1 < 3) (hx : zt_nx t n (zt_acA (zt_oH t n b) t n (zt_oB t n b (σ 5 o))) = 44) (hp : τ 0 15 = zt_sk t n (zt_acA (zt_oH t n b) t n (zt_oB t n b (σ 5 o))) + 1) : zt_ri τ o 1 t n b := by
  have h1 := h.1
  refine ⟨by omega, zt_ri_all h h5 h6 ha hr, fun _ => ⟨by omega, ?_, fun i i0 i1 => ?_⟩, fun q => absurd q (by decide)⟩
  · rw [hp, h5]
    exact (zt_as_s (zt_oH t n b) t n (zt_oS t n b) h1.1).symm
  · by_cases hc : i = σ 5 o
    · rw [hc]; exact hx
    · exact (h.2.2.1 rfl).2.2 i i0 (by omega)
/-- none: they end -/
theorem zt_ri_b (h : zt_ri σ o 1 t n b) (h5 : τ 5 o = σ 5 o + 1) (h6 : ∀ k, 18 * o ≤ k → k < 18 * o + 6 * σ 5 o → τ 6 k = σ 6 k) (ha : zt_acR (zt_oH t n b) t n (zt_oB t n b (σ 5 o)) ≠ 0) (hr : zt_rac τ (18 * o + 6 * σ 5 o) (zt_oH t n b) t n (zt_oB t n b (σ 5 o))) (hj : σ 5 o + 1 < 3) (hx : zt_nx t n (zt_acA (zt_oH t n b) t n (zt_oB t n b (σ 5 o))) ≠ 44) (hp : τ 0 15 = zt_sk t n (zt_acA (zt_oH t n b) t n (zt_oB t n b (σ 5 o)))) : zt_ri τ o 0 t n b := by
  have h1 := h.1
  have al := zt_ri_all h h5 h6 ha hr
  have hs := zt_s_stop (H := zt_oH t n b) (t := t) (n := n) (a := zt_oS t n b) (j := σ 5 o + 1) (by omega) (fun i i0 i1 => (al i i0 (by omega)).1) (fun i i0 i1 => (h.2.2.1 rfl).2.2 i i0 (by omega)) (by rw [show σ 5 o + 1 - 1 = σ 5 o by omega]; exact hx)
  rw [show σ 5 o + 1 - 1 = σ 5 o by omega] at hs
  exact ⟨by omega, al, fun q => absurd q (by decide), fun _ => ⟨by rw [hp]; exact hs.2.1.symm, by rw [h5]; exact hs.2.2.symm, by rw [hs.1]; decide⟩⟩
/-- three: they end -/
theorem zt_ri_c (h : zt_ri σ o 1 t n b) (h5 : τ 5 o = σ 5 o + 1) (h6 : ∀ k, 18 * o ≤ k → k < 18 * o + 6 * σ 5 o → τ 6 k = σ 6 k) (ha : zt_acR (zt_oH t n b) t n (zt_oB t n b (σ 5 o)) ≠ 0) (hr : zt_rac τ (18 * o + 6 * σ 5 o) (zt_oH t n b) t n (zt_oB t n b (σ 5 o))) (hj : ¬ σ 5 o + 1 < 3) (hp : τ 0 15 = zt_acA (zt_oH t n b) t n (zt_oB t n b (σ 5 o))) : zt_ri τ o 0 t n b := by
  have h1 := h.1
  have h2 := (h.2.2.1 rfl).1
  have al := zt_ri_all h h5 h6 ha hr
  have hs := zt_s_full (H := zt_oH t n b) (t := t) (n := n) (a := zt_oS t n b) (fun i i0 i1 => (al i i0 (by omega)).1) (fun i i0 i1 => (h.2.2.1 rfl).2.2 i i0 (by omega))
  rw [show σ 5 o = 2 by omega] at hp
  exact ⟨by omega, al, fun q => absurd q (by decide), fun _ => ⟨by rw [hp]; exact hs.2.1.symm, by rw [h5, show σ 5 o = 2 by omega]; exact hs.2.2.symm, by rw [hs.1]; decide⟩⟩
/-- one can't stand -/
theorem zt_ri_f (h : zt_ri σ o 1 t n b) (ha : zt_acR (zt_oH t n b) t n (zt_oB t n b (σ 5 o)) = 0) : zt_sR (zt_oH t n b) t n (zt_oS t n b) = 0 ∧ zt_oA t n b = zt_acA (zt_oH t n b) t n (zt_oB t n b (σ 5 o)) :=
  zt_s_fail (H := zt_oH t n b) (t := t) (n := n) (a := zt_oS t n b) (j := σ 5 o) ⟨h.1.1, (h.2.2.1 rfl).1⟩ (fun i i0 i1 => (h.2.1 i i0 i1).1) (fun i i0 i1 => (h.2.2.1 rfl).2.2 i i0 i1) ha
end ZTri
theorem zt_acV_nn {H : Int → Bool} {t : Int → Int} {n a : Int} (h : zt_acR H t n a ≠ 0) : 0 ≤ zt_acV H t n a := by
  by_cases c : zt_sn (zt_nx t n (zt_a3 H t n a)) = 0
  · unfold zt_acV; rw [if_pos c]; exact Int.le_refl 0
  · have hb : -1 ≤ zt_acV H t n a := by
      unfold zt_acV; rw [if_neg c]; exact (zt_opR_b H t n _).1
    have hn : zt_acV H t n a ≠ -1 := fun q => by
      unfold zt_acR at h
      rw [if_neg c, if_pos q] at h
      repeat' split at h
      all_goals exact h rfl
    omega
/-- an ORDER's cells, as the reference has read them -/
def zt_cR (τ : zq_S) (o : Int) (t : Int → Int) (n b : Int) : Prop := τ 1 o = zt_nb t (zt_z0 t n) (zt_n0 t n) ∧ (∀ i, 0 ≤ i → i < b → τ 2 (12 * o + i) = zt_oV t n i) ∧ τ 3 o = zt_gK t n (zt_oG t n b) ∧ τ 4 o = zt_gO (zt_oH t n b) t n (zt_oG t n b) ∧ τ 5 o = zt_oN t n b ∧
  (∀ i, 0 ≤ i → i < zt_oN t n b → zt_acR (zt_oH t n b) t n (zt_oB t n b i) ≠ 0 ∧ zt_rac τ (18 * o + 6 * i) (zt_oH t n b) t n (zt_oB t n b i)) ∧ τ 7 o = zt_nx t n (zt_oT t n b) - 48
theorem zt_cR_of {σ τ : zq_S} {o : Int} {t : Int → Int} {n b : Int} (hk : zt_rk τ o t n b) (hi : zt_ri σ o 0 t n b) (h5 : τ 5 o = σ 5 o) (h6 : ∀ k, τ 6 k = σ 6 k) (h7 : τ 7 o = zt_nx t n (zt_oT t n b) - 48) : zt_cR τ o t n b ∧ zx_A τ o ∧ zx_B τ o := by
  have hn := (hi.2.2.2 rfl).2.1
  have al : ∀ i, 0 ≤ i → i < τ 5 o → zt_acR (zt_oH t n b) t n (zt_oB t n b i) ≠ 0 ∧ zt_rac τ (18 * o + 6 * i) (zt_oH t n b) t n (zt_oB t n b i) := fun i i0 i1 => ⟨(hi.2.1 i i0 (by omega)).1, zt_rac_fr (fun k _ _ => h6 k) (hi.2.1 i i0 (by omega)).2⟩
  refine ⟨⟨hk.1, hk.2.1, hk.2.2.1, hk.2.2.2.1, by rw [h5, hn], fun i i0 i1 => al i i0 (by omega), h7⟩, fun i i0 i1 => ?_, hk.2.2.2.2.2⟩
  have q := al i i0 i1
  have q4 := q.2.2.2.2.2.1
  have hv := zt_acV_nn q.1
  have hr := zt_rc_b (zt_acV (zt_oH t n b) t n (zt_oB t n b i))
  rw [q4]
  omega
/-- a LOOK that can't stand, or no colon behind it -/
theorem zt_look_f {ρ : zq_S} {o : Int} {t : Int → Int} {n b k w : Int} (hb : 0 ≤ b ∧ b ≤ 12) (e : ρ 0 2 = b) (h1 : zt_n0 t n ≠ 0) (h2 : zt_tkR t n 58 (zt_p0 t n) ≠ 0) (h : zt_oR t n b = b → (∀ i, 0 ≤ i → i < b → ρ 2 (12 * o + i) = zt_oV t n i) ∧ ¬ (zt_fokr ρ o k w ∧ zt_nx t n (zt_lp t n (zt_oL t n) b) = 58)) : ¬ zt_oK t n b k w ∧ zt_oF t n b k w = zt_oE t n b := by
  by_cases c : zt_oR t n b = b ∧ zt_fok (zt_oM t n b) k w
  · obtain ⟨q1, q2⟩ := h c.1
    have hf : zt_fokr ρ o k w := (zt_fok_r hb e q1).mpr c.2
    have e1 : zt_nx t n (zt_oE t n b) ≠ 58 := fun q => q2 ⟨hf, by unfold zt_oE at q; rw [zt_nx_i, c.1] at q; exact q⟩
    have hz := zt_o4 (k := k) (w := w) h1 h2 c (zt_tkR_n e1)
    refine ⟨hz.1, ?_⟩
    rw [hz.2, zt_tkA_n e1]
    unfold zt_oE
    exact zt_sk_i _ _ _
  · exact zt_o3 h1 h2 c
