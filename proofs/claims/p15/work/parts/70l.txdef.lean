/-! ===== what is written, byte by byte ===== -/
def zu_cv (σ : zq_S) (a x : Int) : Int → Int := fun f => zu_fo (zu_cM (σ (a + 1) f)) (zu_cM x) 12
section ZUev
variable {s t : Int × (Int → Int)}
end ZUev
