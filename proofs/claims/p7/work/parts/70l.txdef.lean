/-! ===== what is written, byte by byte ===== -/
section ZUev
variable {s t : Int × (Int → Int)}
end ZUev
