/-! ===== make: the reference's jobs, and what they put ===== -/
/-- what the jobs rest on is as it was -/
def zm_S (D σ : zq_S) : Prop := (∀ a i, (a = 2 ∨ a = 3 ∨ a = 5 ∨ a = 6 ∨ a = 7 ∨ (21 ≤ a ∧ a ≤ 24)) → σ a i = D a i) ∧ (σ 0 1 = D 0 1 ∧ σ 0 2 = D 0 2 ∧ σ 0 3 = D 0 3 ∧ σ 0 37 = D 0 37) ∧ (∀ j, 0 ≤ j → j < D 0 37 → σ 32 j = zm_C D j)
def zm_It (D : zq_S) (v : Int) : Int → Int := zm_I D (zm_C D) v
def zm_Wt (D : zq_S) (v : Int) : Int → Int := zm_w D (zm_C D) (zm_It D v) (zx_lm D (D 0 3))
def zm_pos (D : zq_S) (f : Int → Int) (σ : zq_S) : Int := if 0 < σ 0 59 then zx_pt σ f (σ 0 59 - 1) else D 0 37
def zm_Jb (D : zq_S) (v : Int) (σ : zq_S) : Prop := (∀ i, 0 ≤ i → i < σ 0 59 → σ 35 i = zm_It D v (σ 34 i) ∧ zm_It D v (σ 34 i) ≠ -1) ∧ (0 < σ 0 59 → σ 34 0 = D 0 37 - 1)
def zm_X (D : zq_S) (f : Int → Int) (v : Int) (σ : zq_S) : Prop := zm_Jb D v σ ∧ σ 0 54 = zm_n (zm_It D v) (zm_pos D f σ) ∧ zm_E (zm_It D v) (zm_Wt D v) (σ 33) (zm_pos D f σ) ∧ (σ 0 55 = 1 → zm_G (zm_It D v) (zx_p2 (D 0 1)) (zm_pos D f σ)) ∧ (σ 0 55 ≠ 1 → ¬ zm_G (zm_It D v) (zx_p2 (D 0 1)) (D 0 37))
section ZMX
variable {D σ τ : zq_S} {f : Int → Int} {v : Int}
end ZMX
/-! the six ways that a job goes on -/
def zm_K (D : zq_S) (v : Int) : Prop := zm_Y D (zm_C D) (zm_P D) (zm_It D v) (zx_lm D (D 0 3)) v (-1) ∧ zm_F D (zm_C D) (zm_P D) (zx_lm D (D 0 3)) ∧ (∀ i, 0 ≤ i → i < D 0 37 → D 21 i = 0 → D 22 i < zx_p2 (D 0 1)) ∧ (∀ i, 0 ≤ D 21 i ∧ D 21 i ≤ 2)
section ZMJ
variable {D σ τ : zq_S} {f : Int → Int} {v p : Int}
/-- the top job's node and what it needs -/
theorem zm_top (hK : zm_K D v) (hS : zm_S D σ) (hJ : zx_J σ f p) (hX : zm_X D f v σ) (hpos : 1 ≤ σ 0 59) : 0 ≤ σ 34 (σ 0 59 - 1) ∧ σ 34 (σ 0 59 - 1) < D 0 37 ∧ σ 35 (σ 0 59 - 1) = zm_It D v (σ 34 (σ 0 59 - 1)) ∧ 0 ≤ zm_It D v (σ 34 (σ 0 59 - 1)) ∧ zm_It D v (σ 34 (σ 0 59 - 1)) ≠ -1 ∧ zm_It D v (σ 34 (σ 0 59 - 1)) ≤ v + D 0 37 := by
  have j := hJ.1 (σ 0 59 - 1) (by omega) (by omega)
  have b := hX.1.1 (σ 0 59 - 1) (by omega) (by omega)
  have c := hK.1.2.1 (σ 34 (σ 0 59 - 1))
  have e := hS.2.1.2.2.2
  have j1 := j.1
  have j2 := j.2.1
  have b2 := b.2
  exact ⟨j1, by omega, b.1, by omega, b2, by omega⟩
end ZMJ

