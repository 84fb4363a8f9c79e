/-! ===== sums: what 'sum' leaves ===== -/
theorem zs_E_fr {t : Int → Int} {n v m b r r' : Int} {σ τ : zq_S} (hr : r' = r) (hs : zs_sm σ τ b) (hp : τ 1 2 = σ 1 2) (h : zs_E t n v m r σ b) : zs_E t n v m r' τ b := fun G => by
  obtain ⟨z1, z2, z3⟩ := h G
  exact ⟨hr.trans z1, hp.trans z2, fun q => by
    obtain ⟨y1, y2, y3⟩ := z3 (hr.symm.trans q)
    exact ⟨hs.1.trans y1, hs.2.1.trans y2, fun i i0 i1 => zs_nd_fr hs (fun _ _ _ => rfl) (y3 i i0 (by rw [← hs.1]; exact i1))⟩⟩
theorem zs_told {σ τ : zq_S} (hT : zc_T σ) (hU : zc_U σ) (ho : zc_Own (σ 255 2) σ τ) (a i : Int) (h1 : σ 255 1 ≤ a) (h2 : a ≤ σ 255 1 + 7) : τ a i = σ a i := by
  have k1 := zc_g255_1 hT zc_s255
  have v1 := zc_k256v k1
  have v2 := zc_k256v (zc_g255_2 hT zc_s255)
  have hne := hU.1
  have kk : 256 ≤ zc_kd a ∧ zc_kd a ≤ 263 := by
    have e : a = σ 255 1 ∨ a = σ 255 1 + 1 ∨ a = σ 255 1 + 2 ∨ a = σ 255 1 + 3 ∨ a = σ 255 1 + 4 ∨ a = σ 255 1 + 5 ∨ a = σ 255 1 + 6 ∨ a = σ 255 1 + 7 := by omega
    rcases e with e | e | e | e | e | e | e | e
    · rw [e, k1]; omega
    · rw [e, zc_p256_1 k1]; omega
    · rw [e, zc_p256_2 k1]; omega
    · rw [e, zc_p256_3 k1]; omega
    · rw [e, zc_p256_4 k1]; omega
    · rw [e, zc_p256_5 k1]; omega
    · rw [e, zc_p256_6 k1]; omega
    · rw [e, zc_p256_7 k1]; omega
  exact ho a i kk.1 kk.2 (by omega)
theorem zs_told_sm {σ τ : zq_S} (hT : zc_T σ) (hU : zc_U σ) (ho : zc_Own (σ 255 2) σ τ) : zs_sm σ τ (σ 255 1) := ⟨zs_told hT hU ho _ _ (by omega) (by omega), zs_told hT hU ho _ _ (by omega) (by omega), fun i => zs_told hT hU ho _ i (by omega) (by omega), fun i => zs_told hT hU ho _ i (by omega) (by omega), fun i => zs_told hT hU ho _ i (by omega) (by omega), fun i => zs_told hT hU ho _ i (by omega) (by omega)⟩
theorem zs_sm_tr {σ ρ τ : zq_S} {b : Int} (h : zs_sm σ ρ b) (k : zs_sm ρ τ b) : zs_sm σ τ b := ⟨k.1.trans h.1, k.2.1.trans h.2.1, fun i => (k.2.2.1 i).trans (h.2.2.1 i), fun i => (k.2.2.2.1 i).trans (h.2.2.2.1 i), fun i => (k.2.2.2.2.1 i).trans (h.2.2.2.2.1 i), fun i => (k.2.2.2.2.2 i).trans (h.2.2.2.2.2 i)⟩
/-- what the class's 'sum' leaves -/
def zs_S (t : Int → Int) (n v m r : Int) (σ τ : zq_S) : Prop := ∀ G, ((zs_run t n v m 100 0 0 0 (zs_0 G)).1 = 1 → r = (zs_run t n v m 100 0 0 0 (zs_0 G)).2 0 44 ∧ τ 255 3 = 1 ∧ τ (τ 255 1) 5 = (zs_run t n v m 100 0 0 0 (zs_0 G)).2 0 43 ∧ ∀ i, 0 ≤ i → i < (zs_run t n v m 100 0 0 0 (zs_0 G)).2 0 43 → zs_nd τ (τ 255 1) (zs_run t n v m 100 0 0 0 (zs_0 G)).2 i) ∧ ((zs_run t n v m 100 0 0 0 (zs_0 G)).1 ≠ 1 → r = -20 - (zs_run t n v m 100 0 0 0 (zs_0 G)).2 0 15 ∧ τ 255 3 = σ 255 3 ∧ τ 255 1 = σ 255 1 ∧ zs_sm σ τ (σ 255 1))
/-- what the reference's 'sum' leaves -/
def zs_Sr (t : Int → Int) (n v m r : Int) (σ τ : zq_S) : Prop := ((zs_run t n v m 100 0 0 0 (zs_0 σ)).1 = 1 → r = (zs_run t n v m 100 0 0 0 (zs_0 σ)).2 0 44 ∧ τ 0 36 = 1 ∧ τ 0 37 = (zs_run t n v m 100 0 0 0 (zs_0 σ)).2 0 43 ∧ ∀ i, 0 ≤ i → i < (zs_run t n v m 100 0 0 0 (zs_0 σ)).2 0 43 → τ 21 i = (zs_run t n v m 100 0 0 0 (zs_0 σ)).2 25 i ∧ τ 22 i = (zs_run t n v m 100 0 0 0 (zs_0 σ)).2 26 i ∧ τ 23 i = (zs_run t n v m 100 0 0 0 (zs_0 σ)).2 27 i ∧ τ 24 i = (zs_run t n v m 100 0 0 0 (zs_0 σ)).2 28 i) ∧ ((zs_run t n v m 100 0 0 0 (zs_0 σ)).1 ≠ 1 → r = -20 - (zs_run t n v m 100 0 0 0 (zs_0 σ)).2 0 15 ∧ τ 0 36 = σ 0 36 ∧ τ 0 37 = σ 0 37 ∧ ∀ a i, 21 ≤ a → a ≤ 24 → τ a i = σ a i)
