/-! ===== make: what prices tell of the chosen ORDERS ===== -/
section ZPI
variable {D : zq_S} {p : Int → Int} {mv o n : Int}
end ZPI
