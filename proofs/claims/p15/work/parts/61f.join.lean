/-! ===== two ORDERS put in as one, by the class ===== -/
theorem zt_bc_b (x : Int) : 0 ≤ zt_bc x ∧ zt_bc x ≤ 63 := by
  unfold zt_bc
  exact (zq_and_mask _ 6 63 64 (by decide) (by decide) (by decide)).2
theorem zt_mx_b (x y : Int) : (x ≤ zt_mx x y ∧ y ≤ zt_mx x y) ∧ (zt_mx x y = x ∨ zt_mx x y = y) := by unfold zt_mx; split <;> omega
theorem zt_fw_mono (A B : Int → Int) : ∀ (k : Nat) (j : Int), 0 ≤ j → zt_fw A B j ≤ zt_fw A B (j + k) := by
  intro k
  induction k with
  | zero => intro j _; rw [show j + ((0 : Nat) : Int) = j by omega]; exact Int.le_refl _
  | succ k ih =>
    intro j hj
    have h1 := ih j hj
    have h2 := zt_fw_s A B (k := j + k) (by omega)
    have h3 := zt_mx_b (zt_bc (A (j + k))) (zt_bc (B (j + k)))
    have h4 := zt_bc_b (A (j + k))
    rw [show j + ((k + 1 : Nat) : Int) = j + k + 1 by omega]
    omega
theorem zt_fw_le (A B : Int → Int) {j m : Int} (h0 : 0 ≤ j) (h : j ≤ m) : zt_fw A B j ≤ zt_fw A B m := by
  have := zt_fw_mono A B (m - j).toNat j h0
  rw [show j + ((m - j).toNat : Int) = m by omega] at this
  exact this
theorem zt_shf {w f : Int} (hw : 0 ≤ w) (hf : 0 ≤ f) (h : w + f ≤ 12) : zq_shl (zx_p2 w - 1) f = (zx_p2 w - 1) * zx_p2 f := by
  have e := zx_p2_add hw hf
  have hp := zx_p2_pos w
  have hq := zx_p2_pos f
  have hl := zx_p2_le (m := w + f) (n := 12) h
  have e12 := zx_p2_12
  have hm : (zx_p2 w - 1) * zx_p2 f = zx_p2 (w + f) - zx_p2 f := by rw [Int.sub_mul, Int.one_mul, e]
  exact zq_shl_v (by omega) (by omega) (by show (zx_p2 w - 1) * zx_p2 f ≤ 2147483647; omega)
/-- ACTS of both -/
def zt_ja (σ τ : zq_S) (s a b : Int) : Prop := τ s 6 = σ a 6 + σ b 6 ∧ τ s 12 = zt_nmK (σ (b + 2)) (σ (b + 3)) (σ (b + 4)) (σ (b + 5)) (zt_nmK (σ (a + 2)) (σ (a + 3)) (σ (a + 4)) (σ (a + 5)) 0 (σ a 6)) (σ b 6) ∧ τ s 13 = zt_amK (σ (b + 2)) (zt_amK (σ (a + 2)) 0 (σ a 6)) (σ b 6) ∧ ∀ k, 2 ≤ k → k ≤ 5 → ∀ j, 0 ≤ j → (j < σ a 6 → τ (s + k) j = σ (a + k) j) ∧ (j < σ b 6 → τ (s + k) (σ a 6 + j) = σ (b + k) j)
theorem zt_ja_1 {u v w fa fb : Int → Int} {m n : Int} (hm : 0 ≤ m) (h1 : ∀ j, v j = if 0 ≤ j ∧ j < 0 + m then fa (j - 0) else u j) (h2 : ∀ j, w j = if m ≤ j ∧ j < m + n then fb (j - m) else v j) : ∀ j, 0 ≤ j → (j < m → w j = fa j) ∧ (j < n → w (m + j) = fb j) := fun j j0 =>
  ⟨fun hj => by rw [h2 j, if_neg (by omega), h1 j, if_pos (by omega), Int.sub_zero], fun hj => by rw [h2 (m + j), if_pos (by omega), show m + j - m = j by omega]⟩
theorem zt_ja_of {σ ρ μ τ : zq_S} {s a b : Int} (ha : 0 ≤ σ a 6) (z6 : ρ s 6 = 0) (z12 : ρ s 12 = 0) (z13 : ρ s 13 = 0) (a6 : ρ a 6 = σ a 6) (a2 : ρ (a + 2) = σ (a + 2)) (a3 : ρ (a + 3) = σ (a + 3)) (a4 : ρ (a + 4) = σ (a + 4)) (a5 : ρ (a + 5) = σ (a + 5)) (b6 : μ b 6 = σ b 6) (b2 : μ (b + 2) = σ (b + 2)) (b3 : μ (b + 3) = σ (b + 3)) (b4 : μ (b + 4) = σ (b + 4)) (b5 : μ (b + 5) = σ (b + 5)) (h1 : zt_app ρ μ s a (ρ a 6)) (h2 : zt_app μ τ s b (μ b 6)) : zt_ja σ τ s a b := by
  obtain ⟨p1, p2, p3, p4, p5, p6, p7⟩ := h1
  obtain ⟨q1, q2, q3, q4, q5, q6, q7⟩ := h2
  have e1 : μ s 6 = σ a 6 := by omega
  rw [e1, b6, b2] at q4
  rw [e1, b6, b3] at q5
  rw [e1, b6, b4] at q6
  rw [e1, b6, b5] at q7
  rw [z6, a6, a2] at p4
  rw [z6, a6, a3] at p5
  rw [z6, a6, a4] at p6
  rw [z6, a6, a5] at p7
  refine ⟨by omega, ?_, ?_, fun k k2 k5 => ?_⟩
  · rw [q2, p2, b2, b3, b4, b5, b6, a2, a3, a4, a5, a6, z12]
  · rw [q3, p3, b2, b6, a2, a6, z13]
  · have hk : k = 2 ∨ k = 3 ∨ k = 4 ∨ k = 5 := by omega
    rcases hk with rfl | rfl | rfl | rfl
    · exact zt_ja_1 ha p4 q4
    · exact zt_ja_1 ha p5 q5
    · exact zt_ja_1 ha p6 q6
    · exact zt_ja_1 ha p7 q7
theorem zt_ja_fr {σ τ τ' : zq_S} {s a b : Int} (e6 : τ' s 6 = τ s 6) (e12 : τ' s 12 = τ s 12) (e13 : τ' s 13 = τ s 13) (f2 : ∀ j, τ' (s + 2) j = τ (s + 2) j) (f3 : ∀ j, τ' (s + 3) j = τ (s + 3) j) (f4 : ∀ j, τ' (s + 4) j = τ (s + 4) j) (f5 : ∀ j, τ' (s + 5) j = τ (s + 5) j) (h : zt_ja σ τ s a b) : zt_ja σ τ' s a b := by
  refine ⟨e6.trans h.1, e12.trans h.2.1, e13.trans h.2.2.1, fun k k2 k5 j j0 => ?_⟩
  have d := h.2.2.2 k k2 k5 j j0
  have e : ∀ j, τ' (s + k) j = τ (s + k) j := by
    have hk : k = 2 ∨ k = 3 ∨ k = 4 ∨ k = 5 := by omega
    rcases hk with rfl | rfl | rfl | rfl
    · exact f2
    · exact f3
    · exact f4
    · exact f5
  rw [e, e]
  exact d
def zt_jc (σ τ : zq_S) (s a b q : Int) : Prop := τ s 1 = zx_p2 (σ 3 2) - zx_p2 (zt_fw (σ (a + 1)) (σ (b + 1)) 4) ∧ τ s 2 = q ∧ (∀ f, 0 ≤ f → f ≤ 3 → τ (s + 1) f = (zx_p2 (zt_mx (zt_bc (σ (a + 1) f)) (zt_bc (σ (b + 1) f))) - 1) * zx_p2 (zt_fw (σ (a + 1)) (σ (b + 1)) 4 - zt_fw (σ (a + 1)) (σ (b + 1)) (f + 1))) ∧ τ s 11 = σ a 11 + σ b 11 - 1 ∧ zt_ja σ τ s a b
def zt_jb (σ τ : zq_S) (s a b r : Int) : Prop := ∃ q, zt_room (fun y => σ 11 y = -1) (zt_cf σ a b ∧ zt_fw (σ (a + 1)) (σ (b + 1)) 4 < σ 3 2) (zx_p2 (zt_fw (σ (a + 1)) (σ (b + 1)) 4)) (zx_p2 (σ 3 2)) q ∧ (q < 0 → r = -2 ∧ zt_same σ τ) ∧ (0 ≤ q → zt_jc σ τ s a b q ∧ zt_keep σ τ τ s r)
theorem zt_keep_fr {σ σ' τ C C' : zq_S} {sp r : Int} (h32 : σ' 3 2 = σ 3 2) (h33 : σ' 3 3 = σ 3 3) (h35 : σ' 3 5 = σ 3 5) (h10 : ∀ i, σ' 10 i = σ 10 i) (h11 : ∀ i, σ' 11 i = σ 11 i) (s1 : C' sp 1 = C sp 1) (s2 : C' sp 2 = C sp 2) (b : zt_keep σ' τ C sp r) : zt_keep σ τ C' sp r := by
  rcases b with ⟨b1, b2, b3⟩ | ⟨b1, b2, b3, b4, b5, b6⟩
  · exact Or.inl ⟨by omega, b2, zt_same_fr h33 h35 h10 h11 b3⟩
  · rw [h33] at b1 b2 b3 b4 b5 b6
    rw [h32] at b6
    refine Or.inr ⟨b1, b2, b3, by rw [b4, h10], fun i => by rw [b5 i, h10], fun i => ?_⟩
    rw [b6 i, s1, s2, h11]
theorem zt_jb_fr {σ μ τ : zq_S} {s a b r : Int} (h32 : μ 3 2 = σ 3 2) (h33 : μ 3 3 = σ 3 3) (h35 : μ 3 5 = σ 3 5) (h10 : ∀ i, μ 10 i = σ 10 i) (h11 : ∀ i, μ 11 i = σ 11 i) (ha : ∀ i, μ a i = σ a i) (hb : ∀ i, μ b i = σ b i) (a1 : μ (a + 1) = σ (a + 1)) (b1 : μ (b + 1) = σ (b + 1)) (a2 : μ (a + 2) = σ (a + 2)) (b2 : μ (b + 2) = σ (b + 2)) (a3 : μ (a + 3) = σ (a + 3)) (b3 : μ (b + 3) = σ (b + 3)) (a4 : μ (a + 4) = σ (a + 4)) (b4 : μ (b + 4) = σ (b + 4)) (a5 : μ (a + 5) = σ (a + 5)) (b5 : μ (b + 5) = σ (b + 5)) (h : zt_jb μ τ s a b r) : zt_jb σ τ s a b r := by
  obtain ⟨q, hr, hn, hy⟩ := h
  have e11 : μ 11 = σ 11 := funext h11
  have ec : zt_cf μ a b = zt_cf σ a b := by unfold zt_cf; rw [ha, ha, ha, ha, ha, hb, hb, hb, hb, hb, a1, b1]
  rw [a1, b1, h32, e11, ec] at hr
  refine ⟨q, hr, fun c => ⟨(hn c).1, zt_same_fr h33 h35 h10 h11 (hn c).2⟩, fun c => ?_⟩
  obtain ⟨hc, hk⟩ := hy c
  refine ⟨?_, zt_keep_fr h32 h33 h35 h10 h11 rfl rfl hk⟩
  obtain ⟨c1, c2, c3, c4, c5⟩ := hc
  rw [h32, a1, b1] at c1
  rw [a1, b1] at c3
  rw [ha, hb] at c4
  obtain ⟨d1, d2, d3, d4⟩ := c5
  rw [ha, hb] at d1
  rw [ha, hb, a2, a3, a4, a5, b2, b3, b4, b5] at d2
  rw [ha, hb, a2, b2] at d3
  refine ⟨c1, c2, c3, c4, d1, d2, d3, fun k k2 k5 j j0 => ?_⟩
  have d := d4 k k2 k5 j j0
  have ea : μ (a + k) j = σ (a + k) j := by
    have hk : k = 2 ∨ k = 3 ∨ k = 4 ∨ k = 5 := by omega
    rcases hk with rfl | rfl | rfl | rfl
    · rw [a2]
    · rw [a3]
    · rw [a4]
    · rw [a5]
  have eb : μ (b + k) j = σ (b + k) j := by
    have hk : k = 2 ∨ k = 3 ∨ k = 4 ∨ k = 5 := by omega
    rcases hk with rfl | rfl | rfl | rfl
    · rw [b2]
    · rw [b3]
    · rw [b4]
    · rw [b5]
  rw [ha, hb, ea, eb] at d
  exact d
/-- what join() does, as the class does it -/
def zt_jn (σ τ : zq_S) (s x y r : Int) : Prop :=
  (¬ (0 ≤ x ∧ x < σ 3 3 ∧ 0 ≤ y ∧ y < σ 3 3) → r = -1 ∧ τ 1 1 = σ 1 1 ∧ zt_same σ τ) ∧
  ((0 ≤ x ∧ x < σ 3 3 ∧ 0 ≤ y ∧ y < σ 3 3) → τ 1 1 = 0 ∧
    ((zt_n0 (σ 2) (σ 1 1) = 0 ∨ ∃ i, 0 ≤ i ∧ i < σ 3 3 ∧ σ (σ 10 i) 0 = zt_na (σ 2) (zt_z0 (σ 2) (σ 1 1)) (zt_n0 (σ 2) (σ 1 1))) → r = -20 - zt_z0 (σ 2) (σ 1 1) ∧ zt_same σ τ) ∧
    (¬ (zt_n0 (σ 2) (σ 1 1) = 0 ∨ ∃ i, 0 ≤ i ∧ i < σ 3 3 ∧ σ (σ 10 i) 0 = zt_na (σ 2) (zt_z0 (σ 2) (σ 1 1)) (zt_n0 (σ 2) (σ 1 1))) → zt_nx (σ 2) (σ 1 1) (zt_p0 (σ 2) (σ 1 1)) ≠ -1 → r = -20 - zt_sk (σ 2) (σ 1 1) (zt_p0 (σ 2) (σ 1 1)) ∧ zt_same σ τ) ∧
    (¬ (zt_n0 (σ 2) (σ 1 1) = 0 ∨ ∃ i, 0 ≤ i ∧ i < σ 3 3 ∧ σ (σ 10 i) 0 = zt_na (σ 2) (zt_z0 (σ 2) (σ 1 1)) (zt_n0 (σ 2) (σ 1 1))) → zt_nx (σ 2) (σ 1 1) (zt_p0 (σ 2) (σ 1 1)) = -1 → τ s 0 = zt_na (σ 2) (zt_z0 (σ 2) (σ 1 1)) (zt_n0 (σ 2) (σ 1 1)) ∧ τ s 4 = 0 ∧ τ s 5 = 0 ∧ τ s 15 = -1 ∧ τ s 16 = -1 ∧ zt_jb σ τ s (σ 10 x) (σ 10 y) r))
