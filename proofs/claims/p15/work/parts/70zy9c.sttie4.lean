/-! ===== runs of steps, side by side ===== -/
section ZSC
variable {R R' : Int → zq_S → zq_S → Prop} {C C' : zq_S → Prop} {Q : zq_S → zq_S → Prop}
end ZSC
/-! ===== back ===== -/
/-! ===== set, get, so ===== -/
theorem zs_gg_mk {σ ρ : zq_S} (hT3 : zu_T3 σ ρ) : zs_gg ρ := fun o o0 o1 q => by
  have hor := hT3.2.2.1 o o0 o1
  have := hor.2.2.1.2.1 (by have := hor.2.2.1.1.1; omega)
  have z := hor.2.2.1.1.2.1
  omega
/-! ===== LOGS ===== -/
