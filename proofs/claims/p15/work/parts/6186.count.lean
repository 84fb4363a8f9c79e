/-! ===== bits counted: FIELDS of class and reference ===== -/
theorem zt_cnt_pos (ρ : zq_S) (o f : Int) : ∀ (k : Nat), 0 < zx_cnt ρ o f k ↔ ∃ i : Int, 0 ≤ i ∧ i < k ∧ ρ 2 (12 * o + i) = 2 + f := by
  intro k
  induction k with
  | zero => exact ⟨fun h => by rw [show ((0 : Nat) : Int) = 0 from rfl, zx_cnt_0] at h; omega, fun ⟨i, h0, h1, _⟩ => by omega⟩
  | succ k ih =>
    have hs := zx_cnt_s ρ o f k (by omega)
    have hb := zx_cnt_b ρ o f k (by omega)
    rw [show ((k + 1 : Nat) : Int) = (k : Int) + 1 by omega]
    constructor
    · intro h
      by_cases hc : ρ 2 (12 * o + k) = 2 + f
      · exact ⟨k, by omega, by omega, hc⟩
      · obtain ⟨i, h0, h1, h2⟩ := ih.mp (by have := hs.2 hc; omega)
        exact ⟨i, h0, by omega, h2⟩
    · intro ⟨i, h0, h1, h2⟩
      by_cases hi : i = k
      · have := hs.1 (hi ▸ h2); omega
      · have h3 := ih.mpr ⟨i, h0, by omega, h2⟩
        by_cases hc : ρ 2 (12 * o + k) = 2 + f
        · have := hs.1 hc; omega
        · have := hs.2 hc; omega
theorem zt_cnt_mk {ρ : zq_S} {o f b : Int} {L : Int → Int} (hb : 0 ≤ b) (h : ∀ i, 0 ≤ i → i < b → ρ 2 (12 * o + i) = L i) : 0 < zx_cnt ρ o f b ↔ zt_mk (fun i => decide (L i = 2 + f)) b ≠ 0 := by
  have h1 := zt_cnt_pos ρ o f b.toNat
  rw [show ((b.toNat : Nat) : Int) = b by omega] at h1
  have h2 := zt_mk_nz (P := fun i => decide (L i = 2 + f)) b.toNat
  rw [show ((b.toNat : Nat) : Int) = b by omega] at h2
  unfold zt_mk
  rw [h1, h2]
  constructor
  · intro ⟨i, h0, h3, h4⟩
    exact ⟨i, h0, h3, decide_eq_true (by rw [← h i h0 h3]; exact h4)⟩
  · intro ⟨i, h0, h3, h4⟩
    exact ⟨i, h0, h3, by rw [h i h0 h3]; exact of_decide_eq_true h4⟩
theorem zt_Hr_o {ρ : zq_S} {o b : Int} {L : Int → Int} (hb : 0 ≤ b) (e : ρ 0 2 = b) (h : ∀ i, 0 ≤ i → i < b → ρ 2 (12 * o + i) = L i) : zt_Hr ρ o = zt_H (fun f => zt_mk (fun i => decide (L i = 2 + f)) b) := by
  funext f
  unfold zt_Hr zt_H
  rw [e]
  exact decide_eq_decide.mpr ⟨fun q => ⟨q.1, q.2.1, (zt_cnt_mk hb h).mp q.2.2⟩, fun q => ⟨q.1, q.2.1, (zt_cnt_mk hb h).mpr q.2.2⟩⟩
/-- twelve bits -/
def zt_pop (x : Int) : Int := x % 2 + x / 2 % 2 + x / 4 % 2 + x / 8 % 2 + x / 16 % 2 + x / 32 % 2 + x / 64 % 2 + x / 128 % 2 + x / 256 % 2 + x / 512 % 2 + x / 1024 % 2 + x / 2048 % 2
theorem zt_pop_s {m e : Int} (hm : 0 ≤ m ∧ m < 2048) (he : e = 0 ∨ e = 1) : zt_pop (2 * m + e) = zt_pop m + e := by
  unfold zt_pop
  omega
theorem zt_bc_popF : ∀ i j : Fin 64, zt_bc ((64 * i.val + j.val : Nat) : Int) = zt_pop ((64 * i.val + j.val : Nat) : Int) := by decide +kernel
theorem zt_bc_pop {x : Int} (h : 0 ≤ x ∧ x < 4096) : zt_bc x = zt_pop x := by
  have := zt_bc_popF ⟨x.toNat / 64, by omega⟩ ⟨x.toNat % 64, by omega⟩
  rw [show ((64 * (x.toNat / 64) + x.toNat % 64 : Nat) : Int) = x by omega] at this
  exact this
theorem zt_pop_cnt {ρ : zq_S} {o f : Int} {L : Int → Int} : ∀ (k : Nat), k ≤ 12 → (∀ i : Int, 0 ≤ i → i < k → ρ 2 (12 * o + i) = L i) → zt_pop (zt_mkF (fun i => decide (L i = 2 + f)) k) = zx_cnt ρ o f k := by
  intro k
  induction k with
  | zero => intro _ _; rw [show ((0 : Nat) : Int) = 0 from rfl, zx_cnt_0]; show zt_pop 0 = 0; decide
  | succ k ih =>
    intro hk h
    have h1 := ih (by omega) (fun i h0 h1 => h i h0 (by omega))
    have hs := zx_cnt_s ρ o f k (by omega)
    have hr := zt_mk_b (fun i => decide (L i = 2 + f)) k
    have hp : (2 : Int) ^ k ≤ 2 ^ 11 := zq_pow2 (by omega)
    have h11 : (2 : Int) ^ 11 = 2048 := by decide
    have hv := h k (by omega) (by omega)
    rw [show ((k + 1 : Nat) : Int) = (k : Int) + 1 by omega]
    show zt_pop (2 * zt_mkF (fun i => decide (L i = 2 + f)) k + (if decide (L k = 2 + f) = true then 1 else 0)) = _
    by_cases hc : L k = 2 + f
    · rw [if_pos (decide_eq_true hc), zt_pop_s (by omega) (Or.inr rfl), h1]
      exact (hs.1 (by rw [hv]; exact hc)).symm
    · rw [if_neg (fun q => hc (of_decide_eq_true q)), zt_pop_s (by omega) (Or.inl rfl), h1]
      have := hs.2 (by rw [hv]; exact hc)
      omega
theorem zt_bc_cnt {ρ : zq_S} {o f b : Int} {L : Int → Int} (hb : 0 ≤ b ∧ b ≤ 12) (h : ∀ i, 0 ≤ i → i < b → ρ 2 (12 * o + i) = L i) : zt_bc (zt_mk (fun i => decide (L i = 2 + f)) b) = zx_cnt ρ o f b := by
  have hr := zt_mk_r (fun i => decide (L i = 2 + f)) b
  have h12 := zx_p2_le (m := b) (n := 12) hb.2
  have e12 := zx_p2_12
  rw [zt_bc_pop (by omega)]
  have := zt_pop_cnt (ρ := ρ) (o := o) (f := f) (L := L) b.toNat (by omega) (fun i h0 h1 => h i h0 (by omega))
  rw [show ((b.toNat : Nat) : Int) = b by omega] at this
  exact this
theorem zt_fok_r {ρ : zq_S} {o b k w : Int} {L : Int → Int} (hb : 0 ≤ b ∧ b ≤ 12) (e : ρ 0 2 = b) (h : ∀ i, 0 ≤ i → i < b → ρ 2 (12 * o + i) = L i) : zt_fokr ρ o k w ↔ zt_fok (fun f => zt_mk (fun i => decide (L i = 2 + f)) b) k w := by
  unfold zt_fokr zt_fok
  rw [e]
  have h3 := zt_bc_cnt (f := 3) hb h
  constructor
  · intro ⟨a, c⟩
    refine ⟨fun f h0 h2 hm => ?_, by rw [h3]; exact a⟩
    show zt_bc (zt_mk (fun i => decide (L i = 2 + f)) b) = k
    rw [zt_bc_cnt hb h]
    have h4 := (zt_cnt_mk (f := f) hb.1 h).mpr hm
    have h5 := c f h0 (by omega)
    omega
  · intro ⟨a, c⟩
    rw [h3] at c
    refine ⟨c, fun f h0 h2 => ?_⟩
    by_cases hm : zt_mk (fun i => decide (L i = 2 + f)) b = 0
    · have h4 : ¬ 0 < zx_cnt ρ o f b := fun q => (zt_cnt_mk (f := f) hb.1 h).mp q hm
      have h5 := zx_cnt_b ρ o f b hb.1
      omega
    · have h4 := a f h0 (by omega) hm
      rw [zt_bc_cnt hb h] at h4
      exact Or.inr h4
theorem zt_nb_z (t : Int → Int) (n s : Int) : zt_nb t s (zt_nl t n s) = 0 ↔ zt_nl t n s = 0 := by
  have hb := zt_nl_b t n s
  have h0 := fun h => zt_nl_s (t := t) (n := n) (s := s) 0 (by omega) h
  have h1 := fun h => zt_nl_s (t := t) (n := n) (s := s) 1 (by omega) h
  have h2 := fun h => zt_nl_s (t := t) (n := n) (s := s) 2 (by omega) h
  rw [Int.add_zero] at h0
  constructor
  · intro h
    unfold zt_nb at h
    by_cases c0 : zt_nl t n s = 0
    · exact c0
    exfalso
    rw [if_neg c0] at h
    have a0 := h0 (by omega)
    by_cases c1 : zt_nl t n s = 1
    · rw [if_pos c1] at h; omega
    rw [if_neg c1] at h
    have a1 := h1 (by omega)
    by_cases c2 : zt_nl t n s = 2
    · rw [if_pos c2] at h; omega
    rw [if_neg c2] at h
    have a2 := h2 (by omega)
    omega
  · intro h
    rw [h, zt_nb_0]
