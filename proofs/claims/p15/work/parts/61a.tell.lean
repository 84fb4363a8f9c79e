/-! ===== ORDERS told: what two share, and the bits of each ===== -/
def zt_lu (A : Int → Int) (C : zq_S) (sp i : Int) : Int := zq_and (zq_and (zq_xor (C (A i) 2) (C sp 2)) (C (A i) 1)) (C sp 1)
def zt_lo (A : Int → Int) (C : zq_S) (sp i : Int) : Int := zq_or (C (A i) 2) (C sp 2)
/-- the least bits that one of n has too, else p -/
def zt_min (A : Int → Int) (C : zq_S) (sp n p l : Int) : Prop := (∀ i, 0 ≤ i → i < n → zt_lu A C sp i = 0 → l ≤ zt_lo A C sp i) ∧ (l = p ∨ ∃ i, 0 ≤ i ∧ i < n ∧ zt_lu A C sp i = 0 ∧ l = zt_lo A C sp i)
/-- an ORDER's bits marked -/
def zt_mark (σ τ : zq_S) (p m v x : Int) : Prop := ∀ i, τ 11 i = if 0 ≤ i ∧ i < p ∧ zq_and i m = v then x else σ 11 i
def zt_same (σ τ : zq_S) : Prop := τ 3 3 = σ 3 3 ∧ τ 3 5 = σ 3 5 ∧ (∀ i, τ 10 i = σ 10 i) ∧ ∀ i, τ 11 i = σ 11 i
def zt_keep (σ τ C : zq_S) (sp r : Int) : Prop := (20 ≤ σ 3 3 ∧ r = -3 ∧ zt_same σ τ) ∨ (σ 3 3 < 20 ∧ r = σ 3 3 ∧ τ 3 3 = σ 3 3 + 1 ∧ τ 3 5 = σ 10 (σ 3 3) ∧ (∀ i, τ 10 i = if i = σ 3 3 then sp else σ 10 i) ∧ zt_mark σ τ (zx_p2 (σ 3 2)) (C sp 1) (C sp 2) (σ 3 3))
def zt_acc (σ τ C : zq_S) (sp r : Int) : Prop := ∃ l, 0 ≤ l ∧ l ≤ zx_p2 (σ 3 2) ∧ zt_min (σ 10) C sp (σ 3 3) (zx_p2 (σ 3 2)) l ∧ (l < zx_p2 (σ 3 2) → r = -2 ∧ τ 3 4 = l * 32 + σ 11 l ∧ zt_same σ τ) ∧ (¬ l < zx_p2 (σ 3 2) → τ 3 4 = σ 3 4 ∧ zt_keep σ τ C sp r)
theorem zt_min_fr {A A' : Int → Int} {C C' : zq_S} {sp n p l : Int} (hA : ∀ i, 0 ≤ i → i < n → A' i = A i) (h1 : ∀ i, 0 ≤ i → i < n → C' (A i) 1 = C (A i) 1) (h2 : ∀ i, 0 ≤ i → i < n → C' (A i) 2 = C (A i) 2) (s1 : C' sp 1 = C sp 1) (s2 : C' sp 2 = C sp 2) (h : zt_min A C sp n p l) : zt_min A' C' sp n p l := by
  have eu : ∀ i, 0 ≤ i → i < n → zt_lu A' C' sp i = zt_lu A C sp i := fun i i0 i1 => by unfold zt_lu; rw [hA i i0 i1, h1 i i0 i1, h2 i i0 i1, s1, s2]
  have eo : ∀ i, 0 ≤ i → i < n → zt_lo A' C' sp i = zt_lo A C sp i := fun i i0 i1 => by unfold zt_lo; rw [hA i i0 i1, h2 i i0 i1, s2]
  refine ⟨fun i i0 i1 hz => ?_, h.2.imp id (fun ⟨i, i0, i1, hz, hl⟩ => ⟨i, i0, i1, by rw [eu i i0 i1]; exact hz, by rw [eo i i0 i1]; exact hl⟩)⟩
  rw [eo i i0 i1]
  exact h.1 i i0 i1 (by rw [← eu i i0 i1]; exact hz)
theorem zt_same_fr {σ σ' τ : zq_S} (h33 : σ' 3 3 = σ 3 3) (h35 : σ' 3 5 = σ 3 5) (h10 : ∀ i, σ' 10 i = σ 10 i) (h11 : ∀ i, σ' 11 i = σ 11 i) (h : zt_same σ' τ) : zt_same σ τ := ⟨h.1.trans h33, h.2.1.trans h35, fun i => (h.2.2.1 i).trans (h10 i), fun i => (h.2.2.2 i).trans (h11 i)⟩
theorem zt_acc_fr {σ σ' τ C C' : zq_S} {sp r : Int} (h32 : σ' 3 2 = σ 3 2) (h33 : σ' 3 3 = σ 3 3) (h34 : σ' 3 4 = σ 3 4) (h35 : σ' 3 5 = σ 3 5) (h10 : ∀ i, σ' 10 i = σ 10 i) (h11 : ∀ i, σ' 11 i = σ 11 i) (h1 : ∀ i, 0 ≤ i → i < σ 3 3 → C' (σ 10 i) 1 = C (σ 10 i) 1) (h2 : ∀ i, 0 ≤ i → i < σ 3 3 → C' (σ 10 i) 2 = C (σ 10 i) 2) (s1 : C' sp 1 = C sp 1) (s2 : C' sp 2 = C sp 2) (h : zt_acc σ' τ C sp r) : zt_acc σ τ C' sp r := by
  obtain ⟨l, l0, l1, hm, ha, hb⟩ := h
  rw [h32] at l1 hm ha hb
  rw [h33] at hm
  have e10 : σ' 10 = σ 10 := funext h10
  rw [e10] at hm
  refine ⟨l, l0, l1, zt_min_fr (fun _ _ _ => rfl) h1 h2 s1 s2 hm, fun q => ?_, fun q => ?_⟩
  · obtain ⟨a, b, c⟩ := ha q
    exact ⟨a, by rw [b, h11], zt_same_fr h33 h35 h10 h11 c⟩
  · obtain ⟨a, b⟩ := hb q
    refine ⟨a.trans h34, ?_⟩
    rcases b with ⟨b1, b2, b3⟩ | ⟨b1, b2, b3, b4, b5, b6⟩
    · exact Or.inl ⟨by omega, b2, zt_same_fr h33 h35 h10 h11 b3⟩
    · rw [h33] at b1 b2 b3 b4 b5 b6
      rw [h32] at b6
      refine Or.inr ⟨b1, b2, b3, by rw [b4, h10], fun i => by rw [b5 i, h10], fun i => ?_⟩
      rw [b6 i, s1, s2, h11]
theorem zt_own4 {a sp k : Int} (ka : zc_kd a = 4) (ks : zc_kd sp = 4) (h : a ≠ sp) (k0 : 0 ≤ k) (k5 : k ≤ 5) : ¬ (sp ≤ a + k ∧ a + k ≤ sp + 5) := by
  intro q
  have a1 := zc_p4_1 ka
  have a2 := zc_p4_2 ka
  have a3 := zc_p4_3 ka
  have a4 := zc_p4_4 ka
  have a5 := zc_p4_5 ka
  have s1 := zc_p4_1 ks
  have s2 := zc_p4_2 ks
  have s3 := zc_p4_3 ks
  have s4 := zc_p4_4 ks
  have s5 := zc_p4_5 ks
  have hc : a = sp + 1 ∨ a = sp + 2 ∨ a = sp + 3 ∨ a = sp + 4 ∨ a = sp + 5 ∨ sp = a + 1 ∨ sp = a + 2 ∨ sp = a + 3 ∨ sp = a + 4 ∨ sp = a + 5 := by omega
  rcases hc with e | e | e | e | e | e | e | e | e | e
  · rw [← e] at s1; omega
  · rw [← e] at s2; omega
  · rw [← e] at s3; omega
  · rw [← e] at s4; omega
  · rw [← e] at s5; omega
  · rw [← e] at a1; omega
  · rw [← e] at a2; omega
  · rw [← e] at a3; omega
  · rw [← e] at a4; omega
  · rw [← e] at a5; omega
theorem zt_cC_fr {σ τ : zq_S} {s : Int} {t : Int → Int} {n b : Int} (e0 : τ s 0 = σ s 0) (e1 : τ s 1 = σ s 1) (e2 : τ s 2 = σ s 2) (e4 : τ s 4 = σ s 4) (e5 : τ s 5 = σ s 5) (e6 : τ s 6 = σ s 6) (e11 : τ s 11 = σ s 11) (e12 : τ s 12 = σ s 12) (e13 : τ s 13 = σ s 13) (e15 : τ s 15 = σ s 15) (e16 : τ s 16 = σ s 16) (f1 : ∀ i, τ (s + 1) i = σ (s + 1) i) (f2 : ∀ i, τ (s + 2) i = σ (s + 2) i) (f3 : ∀ i, τ (s + 3) i = σ (s + 3) i) (f4 : ∀ i, τ (s + 4) i = σ (s + 4) i) (f5 : ∀ i, τ (s + 5) i = σ (s + 5) i) (h : zt_cC σ s t n b) : zt_cC τ s t n b := by
  obtain ⟨h0, h1, h2, h3, h4, h5, h6, h7, h8, h9, hA, hB, hC⟩ := h
  refine ⟨e0.trans h0, e1.trans h1, e2.trans h2, fun f a c => (f1 f).trans (h3 f a c), e4.trans h4, e5.trans h5, e6.trans h6, ?_, e11.trans h8, e12.trans h9, e13.trans hA, e15.trans hB, e16.trans hC⟩
  intro i i0 i1
  have q := h7 i i0 i1
  rw [f2, f3, f4, f5]
  exact q
/-- what order() does, as the class does it -/
def zt_oc (σ τ : zq_S) (sp r : Int) : Prop :=
  ((∃ i, 0 ≤ i ∧ i < σ 3 3 ∧ σ (σ 10 i) 0 = zt_na (σ 2) (zt_z0 (σ 2) (σ 1 1)) (zt_n0 (σ 2) (σ 1 1))) → r = -20 - zt_z0 (σ 2) (σ 1 1) ∧ τ 3 4 = σ 3 4 ∧ zt_same σ τ) ∧
  (¬ (∃ i, 0 ≤ i ∧ i < σ 3 3 ∧ σ (σ 10 i) 0 = zt_na (σ 2) (zt_z0 (σ 2) (σ 1 1)) (zt_n0 (σ 2) (σ 1 1))) → ¬ zt_oK (σ 2) (σ 1 1) (σ 3 2) (σ 3 1) (σ 3 0) → r = -20 - zt_oF (σ 2) (σ 1 1) (σ 3 2) (σ 3 1) (σ 3 0) ∧ τ 3 4 = σ 3 4 ∧ zt_same σ τ) ∧
  (¬ (∃ i, 0 ≤ i ∧ i < σ 3 3 ∧ σ (σ 10 i) 0 = zt_na (σ 2) (zt_z0 (σ 2) (σ 1 1)) (zt_n0 (σ 2) (σ 1 1))) → zt_oK (σ 2) (σ 1 1) (σ 3 2) (σ 3 1) (σ 3 0) → zt_cC τ sp (σ 2) (σ 1 1) (σ 3 2) ∧ zt_acc σ τ τ sp r)
/-- a LOOK of the reference -/
def zt_L (ρ : zq_S) (o : Int) : Int → Int := fun i => ρ 2 (12 * o + i)
theorem zt_cb_y {L M : Int → Int} {j : Int} (h : 0 ≤ j) (hp : L j = 1 ∨ M j = 1) : zt_cb L M (j + 1) = 2 * zt_cb L M j + 1 := zt_mk_y h (by show (decide (L j = 1) || decide (M j = 1)) = true; rw [Bool.or_eq_true, decide_eq_true_eq, decide_eq_true_eq]; exact hp)
theorem zt_cb_n {L M : Int → Int} {j : Int} (h : 0 ≤ j) (hp : ¬ (L j = 1 ∨ M j = 1)) : zt_cb L M (j + 1) = 2 * zt_cb L M j := zt_mk_n h (fun q => hp (by have q : (decide (L j = 1) || decide (M j = 1)) = true := q; rw [Bool.or_eq_true, decide_eq_true_eq, decide_eq_true_eq] at q; exact q))
theorem zt_cb_0 (L M : Int → Int) : zt_cb L M 0 = 0 := rfl
theorem zt_cb_r (L M : Int → Int) (b : Int) : 0 ≤ zt_cb L M b ∧ zt_cb L M b < zx_p2 b := zt_mk_r _ b
theorem zt_co_0 (L M : Int → Int) : zt_co L M 0 := fun i h0 h1 => absurd h1 (by omega)
theorem zt_co_s {L M : Int → Int} {j : Int} (h : zt_co L M j) (hp : 1 < L j ∨ 1 < M j ∨ L j = M j) : zt_co L M (j + 1) := fun i h0 h1 => if hc : i = j then (by rw [hc]; exact hp) else h i h0 (by omega)
theorem zt_co_n1 {L M : Int → Int} {j : Int} (h : ¬ zt_co L M j) : ¬ zt_co L M (j + 1) := fun q => h (fun i h0 h1 => q i h0 (by omega))
theorem zt_co_n2 {L M : Int → Int} {j : Int} (h0 : 0 ≤ j) (h : ¬ (1 < L j ∨ 1 < M j ∨ L j = M j)) : ¬ zt_co L M (j + 1) := fun q => h (q j h0 (by omega))
/-- what the reference finds that an ORDER shares with the first n -/
def zt_sw (ρ : zq_S) (o n r : Int) : Prop := (r < 0 → r = -4 ∧ ∀ i, 0 ≤ i → i < n → ¬ zt_co (zt_L ρ i) (zt_L ρ o) (ρ 0 2)) ∧ (0 ≤ r → (∃ i, 0 ≤ i ∧ i < n ∧ zt_co (zt_L ρ i) (zt_L ρ o) (ρ 0 2) ∧ r = 32 * zt_cb (zt_L ρ i) (zt_L ρ o) (ρ 0 2) + i) ∧ ∀ i, 0 ≤ i → i < n → zt_co (zt_L ρ i) (zt_L ρ o) (ρ 0 2) → r ≤ 32 * zt_cb (zt_L ρ i) (zt_L ρ o) (ρ 0 2) + i)
section ZTsw
variable {ρ : zq_S} {o n r : Int}
theorem zt_sw_0 (ρ : zq_S) (o : Int) : zt_sw ρ o 0 (-4) := ⟨fun _ => ⟨rfl, fun i h0 h1 => absurd h1 (by omega)⟩, fun h => absurd h (by decide)⟩
theorem zt_sw_n (h : zt_sw ρ o n r) (hc : ¬ zt_co (zt_L ρ n) (zt_L ρ o) (ρ 0 2)) : zt_sw ρ o (n + 1) r := by
  refine ⟨fun q => ⟨(h.1 q).1, fun i i0 i1 => if e : i = n then (by rw [e]; exact hc) else (h.1 q).2 i i0 (by omega)⟩, fun q => ⟨?_, fun i i0 i1 hi => if e : i = n then absurd (e ▸ hi) hc else (h.2 q).2 i i0 (by omega) hi⟩⟩
  obtain ⟨i, i0, i1, i2, i3⟩ := (h.2 q).1
  exact ⟨i, i0, by omega, i2, i3⟩
theorem zt_sw_a (h0 : 0 ≤ n) (h : zt_sw ρ o n r) (hc : zt_co (zt_L ρ n) (zt_L ρ o) (ρ 0 2)) (hr : r < 0 ∨ 32 * zt_cb (zt_L ρ n) (zt_L ρ o) (ρ 0 2) + n < r) : zt_sw ρ o (n + 1) (32 * zt_cb (zt_L ρ n) (zt_L ρ o) (ρ 0 2) + n) := by
  have hb := zt_cb_r (zt_L ρ n) (zt_L ρ o) (ρ 0 2)
  refine ⟨fun q => absurd q (by omega), fun q => ⟨⟨n, h0, by omega, hc, rfl⟩, fun i i0 i1 hi => ?_⟩⟩
  by_cases e : i = n
  · rw [e]; exact Int.le_refl _
  · by_cases hn : r < 0
    · exact absurd hi ((h.1 hn).2 i i0 (by omega))
    · have := (h.2 (by omega)).2 i i0 (by omega) hi
      omega
theorem zt_sw_b (h : zt_sw ρ o n r) (hr : ¬ (r < 0 ∨ 32 * zt_cb (zt_L ρ n) (zt_L ρ o) (ρ 0 2) + n < r)) : zt_sw ρ o (n + 1) r := by
  refine ⟨fun q => absurd q (by omega), fun q => ⟨?_, fun i i0 i1 hi => if e : i = n then (by rw [e]; omega) else (h.2 q).2 i i0 (by omega) hi⟩⟩
  obtain ⟨i, i0, i1, i2, i3⟩ := (h.2 q).1
  exact ⟨i, i0, by omega, i2, i3⟩
end ZTsw
theorem zt_L_fr {σ τ : zq_S} (h2 : ∀ i, τ 2 i = σ 2 i) (o : Int) : zt_L τ o = zt_L σ o := funext (fun i => h2 _)
theorem zt_sw_fr {σ τ : zq_S} {o n r : Int} (h2 : ∀ i, τ 2 i = σ 2 i) (hb : τ 0 2 = σ 0 2) (h : zt_sw σ o n r) : zt_sw τ o n r := by
  have e : ∀ o, zt_L τ o = zt_L σ o := zt_L_fr h2
  unfold zt_sw at h ⊢
  simp only [e, hb]
  exact h
theorem zt_cR_fr {σ τ : zq_S} {o : Int} {t : Int → Int} {n b : Int} (h1 : τ 1 o = σ 1 o) (h2 : ∀ i, τ 2 i = σ 2 i) (h3 : τ 3 o = σ 3 o) (h4 : τ 4 o = σ 4 o) (h5 : τ 5 o = σ 5 o) (h6 : ∀ i, τ 6 i = σ 6 i) (h7 : τ 7 o = σ 7 o) (h : zt_cR σ o t n b) : zt_cR τ o t n b :=
  ⟨h1.trans h.1, fun i a c => (h2 _).trans (h.2.1 i a c), h3.trans h.2.2.1, h4.trans h.2.2.2.1, h5.trans h.2.2.2.2.1, fun i a c => ⟨(h.2.2.2.2.2.1 i a c).1, zt_rac_fr (fun k _ _ => h6 k) (h.2.2.2.2.2.1 i a c).2⟩, h7.trans h.2.2.2.2.2.2⟩
/-- what order() does, as the reference does it -/
def zt_ro (σ τ : zq_S) (r : Int) : Prop :=
  ((∃ i, 0 ≤ i ∧ i < σ 0 3 ∧ σ 1 i = zt_nb (σ 10) (zt_z0 (σ 10) (σ 0 14)) (zt_n0 (σ 10) (σ 0 14))) → r = -20 - zt_z0 (σ 10) (σ 0 14) ∧ τ 0 18 = σ 0 18 ∧ τ 0 3 = σ 0 3) ∧
  (¬ (∃ i, 0 ≤ i ∧ i < σ 0 3 ∧ σ 1 i = zt_nb (σ 10) (zt_z0 (σ 10) (σ 0 14)) (zt_n0 (σ 10) (σ 0 14))) → ¬ zt_oK (σ 10) (σ 0 14) (σ 0 2) (σ 0 1) (σ 0 0) → r = -20 - zt_oF (σ 10) (σ 0 14) (σ 0 2) (σ 0 1) (σ 0 0) ∧ τ 0 18 = σ 0 18 ∧ τ 0 3 = σ 0 3) ∧
  (¬ (∃ i, 0 ≤ i ∧ i < σ 0 3 ∧ σ 1 i = zt_nb (σ 10) (zt_z0 (σ 10) (σ 0 14)) (zt_n0 (σ 10) (σ 0 14))) → zt_oK (σ 10) (σ 0 14) (σ 0 2) (σ 0 1) (σ 0 0) → zt_cR τ (σ 0 3) (σ 10) (σ 0 14) (σ 0 2) ∧ ∃ q, zt_sw τ (σ 0 3) (σ 0 3) q ∧ (0 ≤ q → r = -2 ∧ τ 0 18 = q ∧ τ 0 3 = σ 0 3) ∧ (q < 0 → τ 0 18 = σ 0 18 ∧ (σ 0 3 = 20 → r = -3 ∧ τ 0 3 = σ 0 3) ∧ (σ 0 3 ≠ 20 → r = σ 0 3 ∧ τ 0 3 = σ 0 3 + 1)))
