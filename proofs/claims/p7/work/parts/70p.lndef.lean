/-! ===== a LINE read ===== -/
section ZUln
variable (H : Int → Bool) (X : Int → Int) (t : Int → Int) (n : Int)
end ZUln
section ZUln2
variable {H : Int → Bool} {X : Int → Int} {t : Int → Int} {n a k : Int}
end ZUln2
/-! ===== a FIELD put into bits ===== -/
section ZUwf
variable {m b r k : Int}
end ZUwf
section ZUrbi
variable {ρ : zq_S} {o : Int} {V : Int → Int} {i c : Int}
end ZUrbi
