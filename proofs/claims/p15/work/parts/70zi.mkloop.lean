/-! ===== make: the class's loop over the nodes ===== -/
section ZMMI
variable {σ τ π : zq_S} {n o : Int}
end ZMMI
section ZMAR
variable {σ τ π : zq_S} {place r : Int}
end ZMAR
theorem zq_cell_s (σ : zq_S) (a i : Int) (f : Int → Int) : zq_cell σ a f a i = f i := by simp [zq_cell]

