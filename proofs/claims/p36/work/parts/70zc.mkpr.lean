/-! ===== make: what prices tell of the chosen ORDERS ===== -/
theorem zp_pr_up {D : zq_S} {mv j : Int} : ∀ (k : Nat) (n : Int), 0 ≤ n → j < n → zp_pr D mv (n + k) j = zp_pr D mv n j := by
  intro k
  induction k with
  | zero => intro n _ _; rw [show n + ((0 : Nat) : Int) = n by omega]
  | succ k ih =>
    intro n h0 h1
    rw [show n + ((k + 1 : Nat) : Int) = n + (k : Int) + 1 by omega, zp_pr_o (by omega) (by omega)]
    exact ih n h0 h1
theorem zp_pr_st {D : zq_S} {mv j n N : Int} (h0 : 0 ≤ n) (h1 : j < n) (h2 : n ≤ N) : zp_pr D mv N j = zp_pr D mv n j := by
  have q := zp_pr_up (D := D) (mv := mv) (j := j) (N - n).toNat n h0 h1
  rw [show n + (((N - n).toNat : Nat) : Int) = N by omega] at q
  exact q
section ZPI
variable {D : zq_S} {p : Int → Int} {mv o n : Int}
theorem zp_c_i1 (h1 : D 21 n = 1) (h : 0 ≤ zp_c D p mv o n) : zx_form D o = 1 ∧ zp_rm D o n = true := by
  by_cases c : zx_form D o = 1 ∧ zp_rm D o n = true
  · exact c
  · rw [zp_c_1n h1 c] at h
    omega
theorem zp_c_i2 (h1 : ¬ D 21 n = 1) (h : 0 ≤ zp_c D p mv o n) : 3 ≤ zx_form D o ∧ 0 ≤ p (D 23 n) ∧ (zp_lit D o = true → zp_rm D o (D 24 n) = true) ∧ (¬ zp_lit D o = true → 0 ≤ p (D 24 n)) ∧ (zp_ipv D o n = true → 0 ≤ mv) := by
  by_cases c : 3 ≤ zx_form D o ∧ D 6 (18 * o + 3) = D 22 n
  · by_cases c2 : p (D 23 n) < 0
    · rw [zp_c_l h1 c c2] at h
      omega
    · by_cases c3 : (zp_lit D o = true ∧ ¬ zp_rm D o (D 24 n) = true) ∨ (¬ zp_lit D o = true ∧ p (D 24 n) < 0)
      · rw [zp_c_r h1 c c2 c3] at h
        omega
      · by_cases c4 : zp_ipv D o n = true ∧ mv < 0
        · rw [zp_c_m h1 c c2 c3 c4] at h
          omega
        · refine ⟨c.1, by omega, fun q => ?_, fun q => ?_, fun q => ?_⟩
          · by_cases z : zp_rm D o (D 24 n) = true
            · exact z
            · exact absurd (Or.inl ⟨q, z⟩) c3
          · by_cases z : p (D 24 n) < 0
            · exact absurd (Or.inr ⟨q, z⟩) c3
            · omega
          · by_cases z : mv < 0
            · exact absurd ⟨q, z⟩ c4
            · omega
  · rw [zp_c_s h1 c] at h
    omega
end ZPI
/-- what is chosen, at what price -/
def zm_C (D : zq_S) : Int → Int := fun j => (zp_pr D (zx_lm D (D 0 3)) (D 0 37) j).2
def zm_P (D : zq_S) : Int → Int := fun j => (zp_pr D (zx_lm D (D 0 3)) (D 0 37) j).1
theorem zm_F_pr {D : zq_S} {f : Int → Int} (ht : zx_tree (D 21) (D 23) (D 24) f (D 0 37)) (h21 : ∀ i, 0 ≤ D 21 i ∧ D 21 i ≤ 2) (h3 : 0 ≤ D 0 3) : zm_F D (zm_C D) (zm_P D) (zx_lm D (D 0 3)) := by
  intro j j0 j1 hp
  have e1 : zp_pr D (zx_lm D (D 0 3)) (D 0 37) j = zp_pr D (zx_lm D (D 0 3)) (j + 1) j := zp_pr_st (by omega) (by omega) (by omega)
  unfold zm_P at hp
  rw [e1] at hp
  by_cases k0 : D 21 j = 0
  · exact ⟨fun q => absurd k0 q, fun q => absurd q (by omega), fun q => absurd q (by omega)⟩
  · have ew := zp_pr_w (mv := zx_lm D (D 0 3)) j0 k0
    rw [ew] at hp
    have eC : zm_C D j = (zp_b (zp_k D (zx_lm D (D 0 3)) j) (D 0 3)).2 := by
      unfold zm_C
      rw [e1, ew]
    rcases zp_b_r (zp_k D (zx_lm D (D 0 3)) j) (D 0 3) with ⟨a, b, c, e⟩ | ⟨a, b⟩
    · rw [← eC] at b c e
      have hc : 0 ≤ zp_c D (fun i => (zp_pr D (zx_lm D (D 0 3)) j i).1) (zx_lm D (D 0 3)) (zm_C D j) j := by
        have e' : zp_c D (fun i => (zp_pr D (zx_lm D (D 0 3)) j i).1) (zx_lm D (D 0 3)) (zm_C D j) j = _ := e
        rw [e']
        exact a
      refine ⟨fun _ => ⟨b, c h3⟩, fun k1 => zp_c_i1 k1 hc, fun k2 => ?_⟩
      obtain ⟨a1, a2, a3, a4, a5⟩ := zp_c_i2 (by omega) hc
      obtain ⟨t1, t2, t3, t4, t5⟩ := (ht j j0 j1).2.2.1 k2
      have pl : zm_P D (D 23 j) = (zp_pr D (zx_lm D (D 0 3)) j (D 23 j)).1 := by
        unfold zm_P
        rw [zp_pr_st j0 (show D 23 j < j by omega) (by omega)]
      have pr : zm_P D (D 24 j) = (zp_pr D (zx_lm D (D 0 3)) j (D 24 j)).1 := by
        unfold zm_P
        rw [zp_pr_st j0 (show D 24 j < j by omega) (by omega)]
      refine ⟨a1, by rw [pl]; exact a2, fun q => ?_, fun q => ?_, fun q1 q2 => a5 (decide_eq_true ⟨q1, q2⟩)⟩
      · have z := a3 (decide_eq_true q)
        exact ⟨(of_decide_eq_true z).1, z⟩
      · rw [pr]
        exact a4 (fun z => by have z := of_decide_eq_true z; omega)
    · omega
theorem zm_P_root {D : zq_S} (h37 : 1 ≤ D 0 37) (hq : 0 ≤ zp_q D) : 0 ≤ zm_P D (D 0 37 - 1) ∧ (D 21 (D 0 37 - 1) = 0 → 0 ≤ zx_lm D (D 0 3)) := by
  unfold zp_q at hq
  by_cases c : D 21 (D 0 37 - 1) = 0
  · rw [if_pos c] at hq
    refine ⟨?_, fun _ => ?_⟩
    · unfold zm_P
      have e := zp_pr_v (mv := zx_lm D (D 0 3)) (n := D 0 37 - 1) (by omega) c
      rw [show D 0 37 - 1 + 1 = D 0 37 by omega] at e
      rw [e]
      exact Int.le_refl _
    · by_cases z : zx_lm D (D 0 3) < 0
      · rw [if_pos z] at hq
        omega
      · omega
  · rw [if_neg c] at hq
    exact ⟨hq, fun q => absurd q c⟩
/-- what is known of the REGISTERS of a sum that has a price -/
theorem zm_Yq {D : zq_S} {f : Int → Int} {v : Int} (ht : zx_tree (D 21) (D 23) (D 24) f (D 0 37)) (h21 : ∀ i, 0 ≤ D 21 i ∧ D 21 i ≤ 2) (h3 : 0 ≤ D 0 3) (h37 : 1 ≤ D 0 37) (hv : 0 ≤ v) (hq : 0 ≤ zp_q D) : zm_Y D (zm_C D) (zm_P D) (zm_I D (zm_C D) v) (zx_lm D (D 0 3)) v (-1) := by
  obtain ⟨a, b⟩ := zm_P_root h37 hq
  exact zm_Y_I ht h37 (zm_F_pr ht h21 h3) hv a b
theorem zm_Yn {D : zq_S} {f : Int → Int} {v n : Int} (ht : zx_tree (D 21) (D 23) (D 24) f (D 0 37)) (h21 : ∀ i, 0 ≤ D 21 i ∧ D 21 i ≤ 2) (h3 : 0 ≤ D 0 3) (h37 : 1 ≤ D 0 37) (hv : 0 ≤ v) (hq : 0 ≤ zp_q D) (n0 : -1 ≤ n) (n1 : n ≤ D 0 37 - 1) : zm_Y D (zm_C D) (zm_P D) (zm_i D (zm_C D) v n) (zx_lm D (D 0 3)) v n := by
  obtain ⟨a, b⟩ := zm_P_root h37 hq
  have q := zm_Y_i ht (zm_F_pr ht h21 h3) h37 hv a b (D 0 37 - 1 - n).toNat (by omega)
  rw [show D 0 37 - 1 - (((D 0 37 - 1 - n).toNat : Nat) : Int) = n by omega] at q
  exact q
