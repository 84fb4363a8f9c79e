/-! ===== room for two ORDERS put in as one ===== -/
def zt_mx (x y : Int) : Int := if y ≤ x then x else y
theorem zt_mx_u {x y r : Int} (h : r = x ∨ r = y) (h1 : x ≤ r) (h2 : y ≤ r) : r = zt_mx x y := by unfold zt_mx; split <;> omega
def zt_fwF (A B : Int → Int) : Nat → Int
  | 0 => 0
  | k + 1 => zt_fwF A B k + zt_mx (zt_bc (A k)) (zt_bc (B k))
/-- bits of the FIELDS of both, the first k -/
def zt_fw (A B : Int → Int) (k : Int) : Int := zt_fwF A B k.toNat
theorem zt_fw_0 (A B : Int → Int) : zt_fw A B 0 = 0 := rfl
theorem zt_fw_s (A B : Int → Int) {k : Int} (h : 0 ≤ k) : zt_fw A B (k + 1) = zt_fw A B k + zt_mx (zt_bc (A k)) (zt_bc (B k)) := by
  unfold zt_fw
  rw [show (k + 1).toNat = k.toNat + 1 by omega]
  show zt_fwF A B k.toNat + zt_mx (zt_bc (A (k.toNat : Int))) (zt_bc (B (k.toNat : Int))) = _
  rw [show (k.toNat : Int) = k by omega]
def zt_cf (σ : zq_S) (a b : Int) : Prop := σ a 4 = 0 ∧ σ b 4 = 0 ∧ zq_and (zq_or (zq_or (zq_or (σ a 12) (σ a 13)) (σ b 12)) (σ b 13)) 16 = 0 ∧ σ a 6 + σ b 6 ≤ 3 ∧ σ a 11 + σ b 11 ≤ 10 ∧ (σ (a + 1) 3 = 0 ∨ σ (b + 1) 3 = 0 ∨ zt_bc (σ (a + 1) 3) = zt_bc (σ (b + 1) 3))
def zt_free (h : Int → Prop) (x k : Int) : Prop := ∀ y, x ≤ y → y < x + k → h y
def zt_rin (h : Int → Prop) (k x : Int) : Prop := (∃ m, 0 ≤ m ∧ x = m * k) ∧ ∀ m, 0 ≤ m → m * k < x → ¬ zt_free h (m * k) k
/-- the least block of k that is free, below p -/
def zt_room (h : Int → Prop) (F : Prop) (k p r : Int) : Prop := (0 ≤ r → F ∧ (∃ m, 0 ≤ m ∧ r = m * k) ∧ r < p ∧ zt_free h r k ∧ ∀ m, 0 ≤ m → m * k < r → ¬ zt_free h (m * k) k) ∧ (r < 0 → r = -2 ∧ (F → ∀ m, 0 ≤ m → m * k < p → ¬ zt_free h (m * k) k))
section ZTroom
variable {h h' : Int → Prop} {F F' : Prop} {k p x r : Int}
theorem zt_rin_0 (h : Int → Prop) {k : Int} (hk : 0 < k) : zt_rin h k 0 := ⟨⟨0, Int.le_refl 0, (Int.zero_mul k).symm⟩, fun m m0 m1 => by have := Int.mul_nonneg m0 (Int.le_of_lt hk); omega⟩
theorem zt_rin_d (hr : zt_rin h k x) : k ∣ x := by
  obtain ⟨⟨m, m0, e⟩, _⟩ := hr
  exact ⟨m, by rw [e, Int.mul_comm]⟩
theorem zt_rin_s (hk : 0 < k) (hr : zt_rin h k x) (hn : ¬ zt_free h x k) : zt_rin h k (x + k) := by
  obtain ⟨⟨m, m0, e⟩, ha⟩ := hr
  refine ⟨⟨m + 1, by omega, by rw [Int.add_mul, Int.one_mul, ← e]⟩, fun j j0 j1 => ?_⟩
  by_cases c : j * k < x
  · exact ha j j0 c
  · have hj : j = m := by
      have h1 : ¬ j < m := fun q => c (by rw [e]; exact Int.mul_lt_mul_of_pos_right q hk)
      have h2 : ¬ m < j := fun q => by
        have := Int.mul_le_mul_of_nonneg_right (show m + 1 ≤ j by omega) (Int.le_of_lt hk)
        rw [Int.add_mul, Int.one_mul] at this
        omega
      omega
    rw [hj, ← e]
    exact hn
theorem zt_room_f (hF : ¬ F) : zt_room h F k p (-2) := ⟨fun q => absurd q (by decide), fun _ => ⟨rfl, fun f => absurd f hF⟩⟩
theorem zt_room_y (hr : zt_rin h k x) (hF : F) (hx : x < p) (hf : zt_free h x k) (h0 : 0 ≤ x) : zt_room h F k p x := ⟨fun _ => ⟨hF, hr.1, hx, hf, hr.2⟩, fun q => absurd q (by omega)⟩
theorem zt_room_n (hr : zt_rin h k x) (hx : ¬ x < p) : zt_room h F k p (-2) := ⟨fun q => absurd q (by decide), fun _ => ⟨rfl, fun _ m m0 m1 => hr.2 m m0 (by omega)⟩⟩
theorem zt_room_u {r' : Int} (h1 : zt_room h F k p r) (h2 : zt_room h F k p r') : r = r' := by
  by_cases c1 : 0 ≤ r
  · obtain ⟨f1, ⟨m1, a1, e1⟩, b1, d1, g1⟩ := h1.1 c1
    by_cases c2 : 0 ≤ r'
    · obtain ⟨f2, ⟨m2, a2, e2⟩, b2, d2, g2⟩ := h2.1 c2
      have n1 : ¬ r < r' := fun q => g2 m1 a1 (by omega) (by rw [← e1]; exact d1)
      have n2 : ¬ r' < r := fun q => g1 m2 a2 (by omega) (by rw [← e2]; exact d2)
      omega
    · exact absurd (by rw [← e1]; exact d1) ((h2.2 (by omega)).2 f1 m1 a1 (by omega))
  · have e1 := (h1.2 (by omega)).1
    by_cases c2 : 0 ≤ r'
    · obtain ⟨f2, ⟨m2, a2, e2⟩, b2, d2, g2⟩ := h2.1 c2
      exact absurd (by rw [← e2]; exact d2) ((h1.2 (by omega)).2 f2 m2 a2 (by omega))
    · have e2 := (h2.2 (by omega)).1
      omega
theorem zt_room_c (hF : F ↔ F') (hp : F → ∀ m, 0 ≤ m → m * k < p → m * k + k ≤ p) (hk : 0 < k) (hh : ∀ y, 0 ≤ y → y < p → (h y ↔ h' y)) (h1 : zt_room h F k p r) : zt_room h' F' k p r := by
  have key : F → ∀ m, 0 ≤ m → m * k < p → (zt_free h (m * k) k ↔ zt_free h' (m * k) k) := fun f m m0 m1 => by
    have q := hp f m m0 m1
    have q0 := Int.mul_nonneg m0 (Int.le_of_lt hk)
    exact ⟨fun g y y0 y1 => (hh y (by omega) (by omega)).mp (g y y0 y1), fun g y y0 y1 => (hh y (by omega) (by omega)).mpr (g y y0 y1)⟩
  refine ⟨fun c => ?_, fun c => ?_⟩
  · obtain ⟨f1, ⟨m1, a1, e1⟩, b1, d1, g1⟩ := h1.1 c
    refine ⟨hF.mp f1, ⟨m1, a1, e1⟩, b1, ?_, fun m m0 m2 q => g1 m m0 m2 ((key f1 m m0 (by omega)).mpr q)⟩
    rw [e1] at d1 ⊢
    exact (key f1 m1 a1 (by omega)).mp d1
  · obtain ⟨e1, g1⟩ := h1.2 c
    exact ⟨e1, fun f m m0 m1 q => g1 (hF.mpr f) m m0 m1 ((key (hF.mpr f) m m0 m1).mpr q)⟩
end ZTroom
/-- ACTS of another put behind -/
def zt_app (σ τ : zq_S) (s o n : Int) : Prop := τ s 6 = σ s 6 + n ∧ τ s 12 = zt_nmK (σ (o + 2)) (σ (o + 3)) (σ (o + 4)) (σ (o + 5)) (σ s 12) n ∧ τ s 13 = zt_amK (σ (o + 2)) (σ s 13) n ∧ (∀ j, τ (s + 2) j = if σ s 6 ≤ j ∧ j < σ s 6 + n then σ (o + 2) (j - σ s 6) else σ (s + 2) j) ∧ (∀ j, τ (s + 3) j = if σ s 6 ≤ j ∧ j < σ s 6 + n then σ (o + 3) (j - σ s 6) else σ (s + 3) j) ∧ (∀ j, τ (s + 4) j = if σ s 6 ≤ j ∧ j < σ s 6 + n then σ (o + 4) (j - σ s 6) else σ (s + 4) j) ∧ (∀ j, τ (s + 5) j = if σ s 6 ≤ j ∧ j < σ s 6 + n then σ (o + 5) (j - σ s 6) else σ (s + 5) j)
theorem zt_app_0 (σ : zq_S) (s o : Int) : zt_app σ σ s o 0 := ⟨(Int.add_zero _).symm, (zt_nmK_0 _ _ _ _ _).symm, (zt_amK_0 _ _).symm, fun j => by rw [if_neg (by omega)], fun j => by rw [if_neg (by omega)], fun j => by rw [if_neg (by omega)], fun j => by rw [if_neg (by omega)]⟩
theorem zt_app_c {u v : Int → Int} {f g : Int → Int} {m n : Int} (h0 : 0 ≤ n) (h : ∀ j, u j = if m ≤ j ∧ j < m + n then f (j - m) else g j) (hv : ∀ j, v j = if j = m + n then f n else u j) : ∀ j, v j = if m ≤ j ∧ j < m + (n + 1) then f (j - m) else g j := fun j => by
  rw [hv j]
  by_cases c : j = m + n
  · rw [if_pos c, if_pos (by omega), show j - m = n by omega]
  · rw [if_neg c, h j]
    by_cases d : m ≤ j ∧ j < m + n
    · rw [if_pos d, if_pos (by omega)]
    · rw [if_neg d, if_neg (by omega)]
theorem zt_app_s {σ ρ τ : zq_S} {s o n : Int} (h0 : 0 ≤ n) (h : zt_app σ ρ s o n) (ha : zt_add ρ τ s (σ (o + 2) n) (σ (o + 3) n) (σ (o + 4) n) (σ (o + 5) n)) : zt_app σ τ s o (n + 1) := by
  obtain ⟨a1, a2, a3, a4, a5, a6, a7⟩ := h
  obtain ⟨b1, b2, b3, b4, b5, b6, b7⟩ := ha
  rw [a1] at b1 b4 b5 b6 b7
  refine ⟨by omega, ?_, ?_, zt_app_c h0 a4 b4, zt_app_c h0 a5 b5, zt_app_c h0 a6 b6, zt_app_c h0 a7 b7⟩
  · rw [b2, a2, zt_nmK_s _ _ _ _ _ h0]
  · rw [b3, a3, zt_amK_s _ _ h0]
