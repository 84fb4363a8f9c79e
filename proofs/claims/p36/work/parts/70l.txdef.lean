/-! ===== what is written, byte by byte ===== -/
def zu_cH (σ : zq_S) (a : Int) : Int → Bool := fun f => decide (σ (a + 1) f ≠ 0)
def zu_cv (σ : zq_S) (a x : Int) : Int → Int := fun f => zu_fo (zu_cM (σ (a + 1) f)) (zu_cM x) 12
def zu_rH (ρ : zq_S) (o : Int) : Int → Bool := fun f => decide (0 < zx_cnt ρ o f (ρ 0 2))
section ZUev
variable {s t : Int × (Int → Int)}
end ZUev
theorem zu_rf_fr {σ τ : zq_S} {o x f : Int} (h2 : ∀ i, τ 2 i = σ 2 i) (hb : τ 0 2 = σ 0 2) : zu_rf τ o x f = zu_rf σ o x f := by
  unfold zu_rf
  rw [zt_L_fr h2, hb]
