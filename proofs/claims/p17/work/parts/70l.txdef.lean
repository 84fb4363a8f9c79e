/-! ===== what is written, byte by byte ===== -/
def zu_cH (σ : zq_S) (a : Int) : Int → Bool := fun f => decide (σ (a + 1) f ≠ 0)
def zu_rH (ρ : zq_S) (o : Int) : Int → Bool := fun f => decide (0 < zx_cnt ρ o f (ρ 0 2))
section ZUev
variable {s t : Int × (Int → Int)}
end ZUev
