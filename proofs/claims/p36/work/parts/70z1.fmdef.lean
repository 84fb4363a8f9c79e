/-! ===== forms of ORDERS, as the class keeps them ===== -/
def zu_pf (l k : Int) : Int := if l = 3 ∧ k = 9 then 1 else if l = 1 ∧ k = 3 then 2 else 0
def zu_sf (l r k : Int) : Int := if l = 1 ∧ r = 2 ∧ k = 7 then 3 else if l = 1 ∧ r = 3 ∧ k = 11 then 4 else if l = 0 ∧ r = 1 ∧ k = 3 then 5 else if l = 0 ∧ r = 3 ∧ k = 9 then 6 else 0
def zu_form (σ : zq_S) (a : Int) : Int := if σ a 4 = 0 ∧ σ a 6 = 1 ∧ σ (a + 2) 0 = 0 then (if σ (a + 4) 0 = 0 then zu_pf (σ (a + 3) 0) (zu_fl (σ (a + 1)) 4) else zu_sf (σ (a + 3) 0) (σ (a + 5) 0) (zu_fl (σ (a + 1)) 4)) else 0
theorem zu_form_fr {σ τ : zq_S} {a : Int} (h4 : τ a 4 = σ a 4) (h6 : τ a 6 = σ a 6) (a1 : ∀ i, τ (a + 1) i = σ (a + 1) i) (a2 : ∀ i, τ (a + 2) i = σ (a + 2) i) (a3 : ∀ i, τ (a + 3) i = σ (a + 3) i) (a4 : ∀ i, τ (a + 4) i = σ (a + 4) i) (a5 : ∀ i, τ (a + 5) i = σ (a + 5) i) : zu_form τ a = zu_form σ a := by
  unfold zu_form
  rw [h4, h6, a2, a3, a4, a5, show τ (a + 1) = σ (a + 1) from funext a1]
/-- nothing told, or the spare, its form found -/
def zu_fa (σ τ : zq_S) (sp : Int) : Prop := (τ 3 3 = σ 3 3 ∧ ∀ i, τ 10 i = σ 10 i) ∨ (σ 3 3 < 20 ∧ τ 3 3 = σ 3 3 + 1 ∧ (∀ i, τ 10 i = if i = σ 3 3 then sp else σ 10 i) ∧ τ sp 14 = zu_form τ sp)
theorem zu_fa_fr {ρ σ τ : zq_S} {sp : Int} (h3 : ρ 3 3 = σ 3 3) (h10 : ∀ i, ρ 10 i = σ 10 i) (h : zu_fa ρ τ sp) : zu_fa σ τ sp := by
  unfold zu_fa at h ⊢
  rw [h3, show ρ 10 = σ 10 from funext h10] at h
  exact h
def zu_T7 (σ : zq_S) : Prop := ∀ o, 0 ≤ o → o < σ 3 3 → σ (σ 10 o) 14 = zu_form σ (σ 10 o)
theorem zu_T7_tell {σ τ : zq_S} {sp : Int} (hT : zc_T σ) (ksp : zc_kd sp = 4) (adr : ∀ i, 0 ≤ i → i < 20 → σ 10 i ≠ sp) (hO : zd_Own sp σ τ) (ha : zu_fa σ τ sp) (h : zu_T7 σ) : zu_T7 τ := by
  have z3 := zc_g3_3 hT zc_s3
  have old : ∀ o, 0 ≤ o → o < σ 3 3 → τ (σ 10 o) 14 = zu_form τ (σ 10 o) := fun o o0 o1 => by
    have ka := zc_ga10 hT zc_s10 o o0 (by omega)
    have hn := adr o o0 (by omega)
    have w0 := zt_own4 (k := 0) ka ksp hn (by omega) (by omega)
    have c0 : ∀ j, τ (σ 10 o) j = σ (σ 10 o) j := fun j => hO _ j (by rw [ka]; decide) (by rw [ka]; decide) (by omega)
    have c1 : ∀ j, τ (σ 10 o + 1) j = σ (σ 10 o + 1) j := fun j => hO _ j (by rw [zc_p4_1 ka]; decide) (by rw [zc_p4_1 ka]; decide) (zt_own4 ka ksp hn (by omega) (by omega))
    have c2 : ∀ j, τ (σ 10 o + 2) j = σ (σ 10 o + 2) j := fun j => hO _ j (by rw [zc_p4_2 ka]; decide) (by rw [zc_p4_2 ka]; decide) (zt_own4 ka ksp hn (by omega) (by omega))
    have c3 : ∀ j, τ (σ 10 o + 3) j = σ (σ 10 o + 3) j := fun j => hO _ j (by rw [zc_p4_3 ka]; decide) (by rw [zc_p4_3 ka]; decide) (zt_own4 ka ksp hn (by omega) (by omega))
    have c4 : ∀ j, τ (σ 10 o + 4) j = σ (σ 10 o + 4) j := fun j => hO _ j (by rw [zc_p4_4 ka]; decide) (by rw [zc_p4_4 ka]; decide) (zt_own4 ka ksp hn (by omega) (by omega))
    have c5 : ∀ j, τ (σ 10 o + 5) j = σ (σ 10 o + 5) j := fun j => hO _ j (by rw [zc_p4_5 ka]; decide) (by rw [zc_p4_5 ka]; decide) (zt_own4 ka ksp hn (by omega) (by omega))
    rw [c0, zu_form_fr (c0 4) (c0 6) c1 c2 c3 c4 c5]
    exact h o o0 o1
  rcases ha with ⟨e3, e10⟩ | ⟨_, e3, e10, e14⟩
  · intro o o0 o1
    rw [e10]
    exact old o o0 (by omega)
  · intro o o0 o1
    rw [e10]
    by_cases c : o = σ 3 3
    · rw [if_pos c]
      exact e14
    · rw [if_neg c]
      exact old o o0 (by omega)
theorem zu_T7_le {σ τ : zq_S} (h3 : τ 3 3 ≤ σ 3 3) (h10 : ∀ i, τ 10 i = σ 10 i) (hc : ∀ o, 0 ≤ o → o < σ 3 3 → τ (σ 10 o) 14 = σ (σ 10 o) 14 ∧ zu_form τ (σ 10 o) = zu_form σ (σ 10 o)) (h : zu_T7 σ) : zu_T7 τ := by
  intro o o0 o1
  have c := hc o o0 (by omega)
  rw [h10, c.1, c.2]
  exact h o o0 (by omega)
theorem zu_T7_0 {τ : zq_S} (h : τ 3 3 = 0) : zu_T7 τ := fun o o0 o1 => absurd o1 (by omega)

