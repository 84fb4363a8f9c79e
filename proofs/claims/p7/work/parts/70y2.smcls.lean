/-! ===== sums: as the class holds them ===== -/
section ZSC
variable {t : Int → Int} {n v m b : Int} {Z : Int × zq_S} {σ τ G H : zq_S}
end ZSC
/-! ===== sums: as the reference reads them ===== -/
