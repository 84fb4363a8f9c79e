/-! ===== prices: the tie ===== -/
section ZPT
variable {σ ρ : zq_S} (h1 : zc_T σ) (h3 : zx_T ρ) (hT3 : zu_T3 σ ρ)
end ZPT
