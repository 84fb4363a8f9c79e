/-! ===== make: the reference's jobs, and what they put ===== -/
section ZMX
variable {D σ τ : zq_S} {f : Int → Int} {v : Int}
end ZMX
/-! the six ways that a job goes on -/
section ZMJ
variable {D σ τ : zq_S} {f : Int → Int} {v p : Int}
end ZMJ

