/-! ===== does an ORDER name the place? ===== -/
def zt_p4 (x : Int) : Int := x / 16 % 2
theorem zt_p4_or {x y : Int} (hx : 0 ≤ x ∧ x ≤ 127) (hy : 0 ≤ y ∧ y ≤ 127) : (0 ≤ zq_or x y ∧ zq_or x y ≤ 127) ∧ (zt_p4 (zq_or x y) = 1 ↔ zt_p4 x = 1 ∨ zt_p4 y = 1) := by
  obtain ⟨m, rfl⟩ := Int.eq_ofNat_of_zero_le hx.1
  obtain ⟨n, rfl⟩ := Int.eq_ofNat_of_zero_le hy.1
  have hb := zq_or_b (x := (m : Int)) (y := (n : Int)) 7 128 (by decide) (by decide) (by omega) (by omega)
  refine ⟨by omega, ?_⟩
  rw [zt_orN (by omega) (by omega)]
  unfold zt_p4
  have h1 : (m ||| n) / 16 = m / 16 ||| n / 16 := Nat.or_div_two_pow (n := 4)
  have h2 : (m / 16 ||| n / 16) % 2 = m / 16 % 2 ||| n / 16 % 2 := by
    have := Nat.or_mod_two_pow (a := m / 16) (b := n / 16) (n := 1)
    rw [Nat.pow_one] at this
    exact this
  have h3 : (m ||| n) / 16 % 2 = m / 16 % 2 ||| n / 16 % 2 := by rw [h1, h2]
  have ha : m / 16 % 2 = 0 ∨ m / 16 % 2 = 1 := by omega
  have hc : n / 16 % 2 = 0 ∨ n / 16 % 2 = 1 := by omega
  rcases ha with ha | ha <;> rcases hc with hc | hc
  · rw [ha, hc] at h3
    have h4 : (0 ||| 0 : Nat) = 0 := by decide
    omega
  · rw [ha, hc] at h3
    have h4 : (0 ||| 1 : Nat) = 1 := by decide
    omega
  · rw [ha, hc] at h3
    have h4 : (1 ||| 0 : Nat) = 1 := by decide
    omega
  · rw [ha, hc] at h3
    have h4 : (1 ||| 1 : Nat) = 1 := by decide
    omega
theorem zt_p4_aF : ∀ i : Fin 128, zq_and ((i.val : Nat) : Int) 16 = 0 ↔ zt_p4 ((i.val : Nat) : Int) ≠ 1 := by decide +kernel
theorem zt_p4_and {x : Int} (hx : 0 ≤ x ∧ x ≤ 127) : zq_and x 16 = 0 ↔ zt_p4 x ≠ 1 := by
  have := zt_p4_aF ⟨x.toNat, by omega⟩
  rw [show ((x.toNat : Nat) : Int) = x by omega] at this
  exact this
/-- an ACT of the reference that names the place -/
def zt_pa (ρ : zq_S) (p : Int) : Prop := ρ 6 p = 5 ∨ ρ 6 (p + 1) = 5 ∨ (0 < ρ 6 (p + 3) ∧ ρ 6 (p + 4) = 5)
def zt_pn (ρ : zq_S) (o n : Int) : Prop := ∃ i, 0 ≤ i ∧ i < n ∧ zt_pa ρ (18 * o + 6 * i)
theorem zt_pn_0 (ρ : zq_S) (o : Int) : ¬ zt_pn ρ o 0 := fun ⟨i, i0, i1, _⟩ => absurd i1 (by omega)
theorem zt_pn_s {ρ : zq_S} {o n : Int} (h0 : 0 ≤ n) : zt_pn ρ o (n + 1) ↔ zt_pn ρ o n ∨ zt_pa ρ (18 * o + 6 * n) := by
  constructor
  · intro ⟨i, i0, i1, h⟩
    by_cases e : i = n
    · rw [e] at h; exact Or.inr h
    · exact Or.inl ⟨i, i0, by omega, h⟩
  · intro h
    rcases h with ⟨i, i0, i1, h⟩ | h
    · exact ⟨i, i0, by omega, h⟩
    · exact ⟨n, h0, by omega, h⟩
theorem zt_pn_st {ρ : zq_S} {o n x t l v : Int} (h0 : 0 ≤ n) (hx : 0 ≤ x ∧ x ≤ 127) (ht : 0 ≤ t ∧ t ≤ 127) (hl : 0 ≤ l ∧ l ≤ 127) (hv : 0 ≤ v ∧ v ≤ 127) (h : zt_p4 x = 1 ↔ zt_pn ρ o n) (et : zt_p4 t = 1 ↔ ρ 6 (18 * o + 6 * n) = 5) (el : zt_p4 l = 1 ↔ ρ 6 (18 * o + 6 * n + 1) = 5) (ev : zt_p4 v = 1 ↔ 0 < ρ 6 (18 * o + 6 * n + 3) ∧ ρ 6 (18 * o + 6 * n + 4) = 5) : (0 ≤ zq_or x (zq_or (zq_or t l) v) ∧ zq_or x (zq_or (zq_or t l) v) ≤ 127) ∧ (zt_p4 (zq_or x (zq_or (zq_or t l) v)) = 1 ↔ zt_pn ρ o (n + 1)) := by
  have a1 := zt_p4_or ht hl
  have a2 := zt_p4_or a1.1 hv
  have a3 := zt_p4_or hx a2.1
  refine ⟨a3.1, ?_⟩
  rw [zt_pn_s h0, a3.2, a2.2, a1.2, h, et, el, ev]
  unfold zt_pa
  exact ⟨fun q => q.imp id (fun q => by rcases q with (q | q) | q; exact Or.inl q; exact Or.inr (Or.inl q); exact Or.inr (Or.inr q)), fun q => q.imp id (fun q => by rcases q with q | q | q; exact Or.inl (Or.inl q); exact Or.inl (Or.inr q); exact Or.inr q)⟩
/-- two ORDERS of the reference that can be one -/
def zt_cr (ρ : zq_S) (a c : Int) : Prop := ρ 3 a = 0 ∧ ρ 3 c = 0 ∧ (¬ zt_pn ρ a (ρ 5 a) ∧ ¬ zt_pn ρ c (ρ 5 c)) ∧ ρ 5 a + ρ 5 c ≤ 3 ∧ ρ 7 a + ρ 7 c ≤ 10 ∧ (zx_cnt ρ a 3 (ρ 0 2) = 0 ∨ zx_cnt ρ c 3 (ρ 0 2) = 0 ∨ zx_cnt ρ a 3 (ρ 0 2) = zx_cnt ρ c 3 (ρ 0 2))
theorem zt_p4_two {x y : Int} {P Q : Prop} (hx : 0 ≤ x ∧ x ≤ 127) (hy : 0 ≤ y ∧ y ≤ 127) (h1 : zt_p4 x = 1 ↔ P) (h2 : zt_p4 y = 1 ↔ Q) : zq_and (zq_or x y) 16 = 0 ↔ ¬ P ∧ ¬ Q := by
  have a := zt_p4_or hx hy
  rw [zt_p4_and a.1, ← h1, ← h2]
  constructor
  · intro h
    exact ⟨fun q => h (a.2.mpr (Or.inl q)), fun q => h (a.2.mpr (Or.inr q))⟩
  · intro h q
    rcases a.2.mp q with q | q
    · exact h.1 q
    · exact h.2 q
/-- bits that no ORDER of the reference is -/
def zt_hl (ρ : zq_S) (y : Int) : Prop := ∀ o, 0 ≤ o → o < ρ 0 3 → ¬ zt_is (zt_L ρ o) (ρ 0 2) y
