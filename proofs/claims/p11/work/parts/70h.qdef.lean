/-! ===== answers: what they say ===== -/
/-- the first that is so -/
def zu_first (h : Int → Prop) (a p r : Int) : Prop := (0 ≤ r → a ≤ r ∧ r < p ∧ h r ∧ ∀ y, a ≤ y → y < r → ¬ h y) ∧ (r < 0 → r = -4 ∧ ∀ y, a ≤ y → y < p → ¬ h y)
section ZUfo
variable {M X : Int → Bool} {k : Int}
end ZUfo
