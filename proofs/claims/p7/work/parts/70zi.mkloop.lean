/-! ===== make: the class's loop over the nodes ===== -/
section ZMMI
variable {σ τ π : zq_S} {n o : Int}
end ZMMI
section ZMAR
variable {σ τ π : zq_S} {place r : Int}
end ZMAR
