/-! ===== a step of the reference's stepper ===== -/
/-- no GUARD names i -/
def zs_gg (σ : zq_S) : Prop := ∀ o, 0 ≤ o → o < σ 0 3 → σ 3 o ≠ 0 → σ 4 o ≠ 3
