def zu_tie (σ ρ : zq_S) : Prop := zt σ ρ ∧ zu_T2 σ ρ ∧ zu_T3 σ ρ
