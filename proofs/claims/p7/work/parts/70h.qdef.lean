/-! ===== answers: what they say ===== -/
def zu_flF (m : Int → Int) : Nat → Int
  | 0 => 0
  | k + 1 => zq_or (zu_flF m k) (if m k ≠ 0 then zq_shl 1 k else 0)
/-- which FIELDS there are, by their masks -/
def zu_fl (m : Int → Int) (n : Int) : Int := zu_flF m n.toNat
theorem zu_fl_0 (m : Int → Int) : zu_fl m 0 = 0 := rfl
theorem zu_fl_s (m : Int → Int) {n : Int} (h : 0 ≤ n) : (m n ≠ 0 → zu_fl m (n + 1) = zq_or (zu_fl m n) (zq_shl 1 n)) ∧ (¬ m n ≠ 0 → zu_fl m (n + 1) = zq_or (zu_fl m n) 0) := by
  obtain ⟨k, rfl⟩ := Int.eq_ofNat_of_zero_le h
  have e : zu_fl m ((k : Int) + 1) = zq_or (zu_flF m k) (if m k ≠ 0 then zq_shl 1 k else 0) := rfl
  have e2 : zu_fl m (k : Int) = zu_flF m k := rfl
  exact ⟨fun c => by rw [e, e2, if_pos c], fun c => by rw [e, e2, if_neg c]⟩
def zu_ab (σ : zq_S) (a what r : Int) : Prop := (what = 0 → r = σ a 11) ∧ (what = 1 → r = σ a 6) ∧ (what = 2 → r = σ a 4) ∧ (what = 3 → r = zu_fl (σ (a + 1)) 4) ∧ (what = 4 → r = zt_bc (σ (a + 1) 3)) ∧ (what = 5 → r = σ a 2) ∧ (¬ (0 ≤ what ∧ what ≤ 5) → r = -1)
def zu_abr (ρ : zq_S) (o what r : Int) : Prop := (what = 0 → r = ρ 7 o) ∧ (what = 1 → r = ρ 5 o) ∧ (what = 2 → r = ρ 3 o) ∧ (what = 3 → r = zx_fm ρ o 4) ∧ (what = 4 → r = zx_cnt ρ o 3 (ρ 0 2)) ∧ (what = 5 → r = zt_mk (fun i => decide (zt_L ρ o i = 1)) (ρ 0 2)) ∧ (¬ (0 ≤ what ∧ what ≤ 5) → r = -1)
section ZUfo
variable {M X : Int → Bool} {k : Int}
end ZUfo
