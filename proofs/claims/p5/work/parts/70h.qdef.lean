/-! ===== answers: what they say ===== -/
section ZUfo
variable {M X : Int → Bool} {k : Int}
end ZUfo
