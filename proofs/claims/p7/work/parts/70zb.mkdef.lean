/-! ===== make: which nodes go into which REGISTER ===== -/
section ZMT
variable {K L R f : Int → Int} {N : Int}
end ZMT
/-! ===== make: what is put, node by node ===== -/
