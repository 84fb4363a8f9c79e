/-! ===== make: as the class does it ===== -/
section ZMcw
variable {σ : zq_S} {t node a : Int}
end ZMcw
/-! ===== REGISTERS chosen ===== -/
section ZMCR
variable {σ τ π D : zq_S} {t n : Int}
end ZMCR
/-! ===== bits of a node, side by side ===== -/
section ZMcwW
variable {σ τ D : zq_S}
end ZMcwW

