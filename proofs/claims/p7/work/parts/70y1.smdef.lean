/-! ===== sums: how they are read ===== -/
section ZS
variable (t : Int → Int) (n v m : Int)
end ZS
section ZSP
variable {t : Int → Int} {n v m : Int}
end ZSP

