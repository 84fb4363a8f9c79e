/-! ===== make: its beginning and its end ===== -/
section ZME
variable {D σ : zq_S} {f : Int → Int} {v : Int}
end ZME
section ZMR
variable {D : zq_S} {place r : Int} {c c' : Int → Int}
end ZMR

