/-! ===== which ORDER some bits are, as the reference maps them ===== -/
def zt_ow (ρ : zq_S) (x r : Int) : Prop := (r < 0 → r = -4 ∧ ∀ o, 0 ≤ o → o < ρ 0 3 → ¬ zt_is (zt_L ρ o) (ρ 0 2) x) ∧ (0 ≤ r → r < ρ 0 3 ∧ zt_is (zt_L ρ r) (ρ 0 2) x ∧ ∀ o, 0 ≤ o → o < r → ¬ zt_is (zt_L ρ o) (ρ 0 2) x)
theorem zt_ow_old {σ τ : zq_S} {x r : Int} (h3 : τ 0 3 = σ 0 3) (hb : τ 0 2 = σ 0 2) (hb2 : σ 0 2 ≤ 12) (h2 : ∀ i, i < 12 * σ 0 3 → τ 2 i = σ 2 i) (h : zt_ow σ x r) : zt_ow τ x r := by
  have e : ∀ o, o < σ 0 3 → (zt_is (zt_L τ o) (τ 0 2) x ↔ zt_is (zt_L σ o) (σ 0 2) x) := fun o ho => by
    rw [hb]
    exact ⟨fun q i i0 i1 => by have := q i i0 i1; unfold zt_L at this ⊢; rw [← h2 _ (by omega)]; exact this, fun q i i0 i1 => by have := q i i0 i1; unfold zt_L at this ⊢; rw [h2 _ (by omega)]; exact this⟩
  refine ⟨fun c => ⟨(h.1 c).1, fun o o0 o1 q => (h.1 c).2 o o0 (by omega) ((e o (by omega)).mp q)⟩, fun c => ?_⟩
  obtain ⟨a1, a2, a3⟩ := h.2 c
  exact ⟨by omega, (e r a1).mpr a2, fun o o0 o1 q => a3 o o0 o1 ((e o (by omega)).mp q)⟩
theorem zt_ow_fr {σ τ : zq_S} {x r : Int} (h2 : ∀ i, τ 2 i = σ 2 i) (h3 : τ 0 3 = σ 0 3) (hb : τ 0 2 = σ 0 2) (h : zt_ow σ x r) : zt_ow τ x r := by
  have e : ∀ o, zt_L τ o = zt_L σ o := zt_L_fr h2
  unfold zt_ow at h ⊢
  simp only [e, h3, hb]
  exact h
/-- the map, where it is there -/
def zx_W (σ : zq_S) : Prop := σ 0 30 = 1 → ∀ n, 0 ≤ n → n < zx_p2 (σ 0 2) → zt_ow σ n (σ 18 n)
theorem zx_W_fr {σ τ : zq_S} (h18 : ∀ i, τ 18 i = σ 18 i) (hm : τ 0 30 = σ 0 30) (hb : τ 0 2 = σ 0 2) (h3 : τ 0 3 = σ 0 3) (h2 : ∀ i, τ 2 i = σ 2 i) (h : zx_W σ) : zx_W τ := fun c n n0 n1 => by
  rw [h18]
  exact zt_ow_fr h2 h3 hb (h (by rw [← hm]; exact c) n n0 (by rw [← hb]; exact n1))
theorem zx_W_old {σ τ : zq_S} (h18 : ∀ i, τ 18 i = σ 18 i) (hm : τ 0 30 = σ 0 30) (hb : τ 0 2 = σ 0 2) (h3 : τ 0 3 = σ 0 3) (hb2 : σ 0 2 ≤ 12) (h2 : ∀ i, i < 12 * σ 0 3 → τ 2 i = σ 2 i) (h : zx_W σ) : zx_W τ := fun c n n0 n1 => by
  rw [h18]
  exact zt_ow_old h3 hb hb2 h2 (h (by rw [← hm]; exact c) n n0 (by rw [← hb]; exact n1))
theorem zx_W_0 {σ : zq_S} (h : σ 0 30 = 0) : zx_W σ := fun c => absurd c (by omega)
