/-! ===== make: what prices tell of the chosen ORDERS ===== -/
section ZPI
variable {D : zq_S} {p : Int → Int} {mv o n : Int}
end ZPI
/-- what is chosen, at what price -/
def zm_C (D : zq_S) : Int → Int := fun j => (zp_pr D (zx_lm D (D 0 3)) (D 0 37) j).2
def zm_P (D : zq_S) : Int → Int := fun j => (zp_pr D (zx_lm D (D 0 3)) (D 0 37) j).1
