/-! ===== prices: a model over the reference's cells ===== -/
section ZPC
variable {D : zq_S} {p : Int → Int} {mv o n : Int}
end ZPC
