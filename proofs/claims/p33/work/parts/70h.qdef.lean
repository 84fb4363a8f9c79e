/-! ===== answers: what they say ===== -/
section ZUfo
variable {M X : Int → Bool} {k : Int}
end ZUfo
/-- room, as the class finds it -/
def zu_rc (σ : zq_S) (a c r : Int) : Prop := zt_room (fun y => σ 11 y = -1) (zt_cf σ a c ∧ zt_fw (σ (a + 1)) (σ (c + 1)) 4 < σ 3 2) (zx_p2 (zt_fw (σ (a + 1)) (σ (c + 1)) 4)) (zx_p2 (σ 3 2)) r
