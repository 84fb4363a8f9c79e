/-! ===== two ORDERS put in as one, by the reference ===== -/
def zt_rb (ρ : zq_S) (a c : Int) : Int := zx_rb (zq_or (zx_fm ρ a 4) (zx_fm ρ c 4)) (if 0 < zx_cnt ρ a 3 (ρ 0 2) then zx_cnt ρ a 3 (ρ 0 2) else zx_cnt ρ c 3 (ρ 0 2)) (ρ 0 1)
def zt_rs (ρ : zq_S) (a c f : Int) : Int := zx_ms (zq_or (zx_fm ρ a 4) (zx_fm ρ c 4)) (if 0 < zx_cnt ρ a 3 (ρ 0 2) then zx_cnt ρ a 3 (ρ 0 2) else zx_cnt ρ c 3 (ρ 0 2)) (ρ 0 1) f
def zt_rr (ρ : zq_S) (a c q : Int) : Prop := zt_room (zt_hl ρ) (zt_cr ρ a c ∧ zt_rb ρ a c < ρ 0 2) (zx_p2 (zt_rb ρ a c)) (zx_p2 (ρ 0 2)) q
/-- the cells of the one -/
def zt_lj (σ τ : zq_S) (a c room name : Int) : Prop :=
  τ 1 (σ 0 3) = name ∧ τ 3 (σ 0 3) = 0 ∧ τ 4 (σ 0 3) = 0 ∧ τ 5 (σ 0 3) = σ 5 a + σ 5 c ∧ τ 7 (σ 0 3) = σ 7 a + σ 7 c - 1 ∧
  (∀ q, 0 ≤ q → q < 6 * (σ 5 a + σ 5 c) → τ 6 (18 * σ 0 3 + q) = if q < 6 * σ 5 a then σ 6 (18 * a + q) else σ 6 (18 * c + q - 6 * σ 5 a)) ∧
  (∀ i, 0 ≤ i → i < σ 0 2 - zt_rb σ a c → τ 2 (12 * σ 0 3 + i) = zt_bi (σ 0 2) room i) ∧
  (∀ f, 0 ≤ f → f ≤ 3 → ∀ i, σ 0 2 - zt_rb σ a c + zt_rs σ a c f ≤ i → i < σ 0 2 - zt_rb σ a c + zt_rs σ a c (f + 1) → τ 2 (12 * σ 0 3 + i) = 2 + f)
section ZTrj
variable {σ σ' τ τ' : zq_S} {a c : Int}
theorem zt_rb_fr (h2 : ∀ i, σ' 2 i = σ 2 i) (e1 : σ' 0 1 = σ 0 1) (e2 : σ' 0 2 = σ 0 2) : zt_rb σ' a c = zt_rb σ a c ∧ ∀ f, zt_rs σ' a c f = zt_rs σ a c f := by
  unfold zt_rb zt_rs
  rw [zx_fm_fr h2 e2, zx_fm_fr h2 e2, zx_cnt_fr h2, zx_cnt_fr h2, e1, e2]
  exact ⟨rfl, fun _ => rfl⟩
theorem zt_hl_fr (h2 : ∀ i, σ' 2 i = σ 2 i) (e2 : σ' 0 2 = σ 0 2) (e3 : σ' 0 3 = σ 0 3) : zt_hl σ' = zt_hl σ := by
  funext y
  unfold zt_hl
  rw [e2, e3]
  have e : ∀ o, zt_L σ' o = zt_L σ o := zt_L_fr h2
  simp only [e]
theorem zt_pn_fr (h6 : ∀ i, σ' 6 i = σ 6 i) (o n : Int) : zt_pn σ' o n = zt_pn σ o n := by
  unfold zt_pn zt_pa
  simp only [h6]
theorem zt_cr_fr (h2 : ∀ i, σ' 2 i = σ 2 i) (h3 : ∀ i, σ' 3 i = σ 3 i) (h5 : ∀ i, σ' 5 i = σ 5 i) (h6 : ∀ i, σ' 6 i = σ 6 i) (h7 : ∀ i, σ' 7 i = σ 7 i) (e2 : σ' 0 2 = σ 0 2) : zt_cr σ' a c = zt_cr σ a c := by
  unfold zt_cr
  rw [h3, h3, h5, h5, h7, h7, zt_pn_fr h6, zt_pn_fr h6, zx_cnt_fr h2, zx_cnt_fr h2, e2]
theorem zt_rr_fr {q : Int} (h2 : ∀ i, σ' 2 i = σ 2 i) (h3 : ∀ i, σ' 3 i = σ 3 i) (h5 : ∀ i, σ' 5 i = σ 5 i) (h6 : ∀ i, σ' 6 i = σ 6 i) (h7 : ∀ i, σ' 7 i = σ 7 i) (e1 : σ' 0 1 = σ 0 1) (e2 : σ' 0 2 = σ 0 2) (e3 : σ' 0 3 = σ 0 3) (h : zt_rr σ' a c q) : zt_rr σ a c q := by
  unfold zt_rr at h ⊢
  rw [zt_hl_fr h2 e2 e3, zt_cr_fr h2 h3 h5 h6 h7 e2, (zt_rb_fr h2 e1 e2).1, e2] at h
  exact h
theorem zt_lj_fr {room name : Int} (h2 : ∀ i, σ' 2 i = σ 2 i) (h5 : ∀ i, σ' 5 i = σ 5 i) (h6 : ∀ i, σ' 6 i = σ 6 i) (h7 : ∀ i, σ' 7 i = σ 7 i) (e1 : σ' 0 1 = σ 0 1) (e2 : σ' 0 2 = σ 0 2) (e3 : σ' 0 3 = σ 0 3) (f1 : ∀ i, τ' 1 i = τ 1 i) (f2 : ∀ i, τ' 2 i = τ 2 i) (f3 : ∀ i, τ' 3 i = τ 3 i) (f4 : ∀ i, τ' 4 i = τ 4 i) (f5 : ∀ i, τ' 5 i = τ 5 i) (f6 : ∀ i, τ' 6 i = τ 6 i) (f7 : ∀ i, τ' 7 i = τ 7 i) (h : zt_lj σ' τ a c room name) : zt_lj σ τ' a c room name := by
  have hb := zt_rb_fr (σ := σ) (σ' := σ') (a := a) (c := c) h2 e1 e2
  unfold zt_lj at h ⊢
  simp only [h5, h6, h7, e2, e3, hb.1, hb.2] at h
  simp only [f1, f2, f3, f4, f5, f6, f7]
  exact h
end ZTrj
/-- what join() does, as the reference does it -/
def zt_rj (σ τ : zq_S) (x y r : Int) : Prop :=
  (¬ (0 ≤ x ∧ x < σ 0 3 ∧ 0 ≤ y ∧ y < σ 0 3) → r = -1 ∧ τ 0 14 = σ 0 14 ∧ τ 0 3 = σ 0 3) ∧
  ((0 ≤ x ∧ x < σ 0 3 ∧ 0 ≤ y ∧ y < σ 0 3) → τ 0 14 = 0 ∧
    ((zt_n0 (σ 10) (σ 0 14) = 0 ∨ ∃ i, 0 ≤ i ∧ i < σ 0 3 ∧ σ 1 i = zt_nb (σ 10) (zt_z0 (σ 10) (σ 0 14)) (zt_n0 (σ 10) (σ 0 14))) → r = -20 - zt_z0 (σ 10) (σ 0 14) ∧ τ 0 3 = σ 0 3) ∧
    (¬ (zt_n0 (σ 10) (σ 0 14) = 0 ∨ ∃ i, 0 ≤ i ∧ i < σ 0 3 ∧ σ 1 i = zt_nb (σ 10) (zt_z0 (σ 10) (σ 0 14)) (zt_n0 (σ 10) (σ 0 14))) → zt_nx (σ 10) (σ 0 14) (zt_p0 (σ 10) (σ 0 14)) ≠ -1 → r = -20 - zt_sk (σ 10) (σ 0 14) (zt_p0 (σ 10) (σ 0 14)) ∧ τ 0 3 = σ 0 3) ∧
    (¬ (zt_n0 (σ 10) (σ 0 14) = 0 ∨ ∃ i, 0 ≤ i ∧ i < σ 0 3 ∧ σ 1 i = zt_nb (σ 10) (zt_z0 (σ 10) (σ 0 14)) (zt_n0 (σ 10) (σ 0 14))) → zt_nx (σ 10) (σ 0 14) (zt_p0 (σ 10) (σ 0 14)) = -1 → ∃ q, zt_rr σ x y q ∧ (q < 0 → r = -2 ∧ τ 0 3 = σ 0 3) ∧ (0 ≤ q → (σ 0 3 = 20 → r = -3 ∧ τ 0 3 = σ 0 3) ∧ (σ 0 3 ≠ 20 → r = σ 0 3 ∧ τ 0 3 = σ 0 3 + 1 ∧ zt_lj σ τ x y q (zt_nb (σ 10) (zt_z0 (σ 10) (σ 0 14)) (zt_n0 (σ 10) (σ 0 14)))))))
theorem zx_ms_4m {F I K m n : Int} (hI : 0 ≤ I ∧ I ≤ 8) (hK : 0 ≤ K ∧ K ≤ 3) (h0 : 0 ≤ m) (h : m ≤ n) : zx_ms F I K m ≤ zx_ms F I K n := by
  have key : ∀ (k : Nat), zx_ms F I K m ≤ zx_ms F I K (m + k) := by
    intro k
    induction k with
    | zero => rw [show m + ((0 : Nat) : Int) = m by omega]; exact Int.le_refl _
    | succ k ih =>
      have h1 := zx_ms_s F I K (n := m + k) (by omega)
      have h2 := zx_mn_b (F := F) (f := m + k) hI hK
      rw [show m + ((k + 1 : Nat) : Int) = m + k + 1 by omega]
      omega
  have := key (n - m).toNat
  rw [show m + ((n - m).toNat : Int) = n by omega] at this
  exact this
