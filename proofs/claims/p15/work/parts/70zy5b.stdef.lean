/-! ===== a step of the stepper: what the class's methods leave ===== -/
/-- what a step wants: CODE in bounds, its ORDERS well told -/
def zs_og (σ : zq_S) (a x m : Int) : Prop := zw_oo σ a ∧ ((∀ f, 0 ≤ f → f ≤ 2 → 0 ≤ zu_cv σ a x f ∧ zu_cv σ a x f ≤ 7) ∧ 0 ≤ zu_cv σ a x 3 ∧ zu_cv σ a x 3 ≤ m) ∧ (0 ≤ σ a 12 ∧ σ a 12 ≤ 127) ∧ (0 ≤ σ a 13 ∧ σ a 13 ≤ 127)
/-! ===== runs of steps ===== -/
/-! ===== a step is gone back ===== -/
/-! ===== where a store of the stepper stands ===== -/
/-! ===== the trial machine ===== -/
/-! ===== get and set ===== -/
