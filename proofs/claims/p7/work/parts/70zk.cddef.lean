/-! ===== CODE and SHEETS: what is put, loaded, written ===== -/
section ZSV
variable {v : Int} {G : zq_S}
end ZSV
