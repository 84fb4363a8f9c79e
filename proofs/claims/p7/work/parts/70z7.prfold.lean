/-! ===== prices: the class's costs, and the model's ===== -/
section ZPW
variable {σ D : zq_S} {t : Int}
end ZPW
section ZPS
variable {σ τ π : zq_S} {t n : Int}
end ZPS
section ZPF
variable {σ τ : zq_S}
end ZPF
