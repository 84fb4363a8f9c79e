/-! ===== prices: a model over the reference's cells ===== -/
def zp_rm (D : zq_S) (o n : Int) : Bool := decide (D 21 n = 1 ∧ zq_shr (D 22 n) (zx_cnt D o 3 (D 0 2)) = 0)
def zp_lit (D : zq_S) (o : Int) : Bool := decide (zx_form D o = 4 ∨ zx_form D o = 6)
def zp_ipv (D : zq_S) (o n : Int) : Bool := decide (5 ≤ zx_form D o ∧ D 21 (D 23 n) = 0)
/-- the cost of node n by ORDER o; below 0: none -/
def zp_c (D : zq_S) (p : Int → Int) (mv o n : Int) : Int :=
  if D 21 n = 1 then (if zx_form D o = 1 ∧ zp_rm D o n = true then D 7 o else -1)
  else if ¬ (3 ≤ zx_form D o ∧ D 6 (18 * o + 3) = D 22 n) then -1
  else if p (D 23 n) < 0 then -1
  else if (zp_lit D o = true ∧ ¬ zp_rm D o (D 24 n) = true) ∨ (¬ zp_lit D o = true ∧ p (D 24 n) < 0) then -1
  else if zp_ipv D o n = true ∧ mv < 0 then -1
  else p (D 23 n) + (if zp_lit D o = true then 0 else p (D 24 n)) + D 7 o + (if zp_ipv D o n = true then D 7 mv else 0)
section ZPC
variable {D : zq_S} {p : Int → Int} {mv o n : Int}
theorem zp_c_1y (h1 : D 21 n = 1) (h : zx_form D o = 1 ∧ zp_rm D o n = true) : zp_c D p mv o n = D 7 o := by
  unfold zp_c
  rw [if_pos h1, if_pos h]
theorem zp_c_1n (h1 : D 21 n = 1) (h : ¬ (zx_form D o = 1 ∧ zp_rm D o n = true)) : zp_c D p mv o n = -1 := by
  unfold zp_c
  rw [if_pos h1, if_neg h]
theorem zp_c_s (h1 : ¬ D 21 n = 1) (h : ¬ (3 ≤ zx_form D o ∧ D 6 (18 * o + 3) = D 22 n)) : zp_c D p mv o n = -1 := by
  unfold zp_c
  rw [if_neg h1, if_pos h]
theorem zp_c_l (h1 : ¬ D 21 n = 1) (h : 3 ≤ zx_form D o ∧ D 6 (18 * o + 3) = D 22 n) (hl : p (D 23 n) < 0) : zp_c D p mv o n = -1 := by
  unfold zp_c
  rw [if_neg h1, if_neg (fun q => q h), if_pos hl]
theorem zp_c_r (h1 : ¬ D 21 n = 1) (h : 3 ≤ zx_form D o ∧ D 6 (18 * o + 3) = D 22 n) (hl : ¬ p (D 23 n) < 0) (hr : (zp_lit D o = true ∧ ¬ zp_rm D o (D 24 n) = true) ∨ (¬ zp_lit D o = true ∧ p (D 24 n) < 0)) : zp_c D p mv o n = -1 := by
  unfold zp_c
  rw [if_neg h1, if_neg (fun q => q h), if_neg hl, if_pos hr]
theorem zp_c_m (h1 : ¬ D 21 n = 1) (h : 3 ≤ zx_form D o ∧ D 6 (18 * o + 3) = D 22 n) (hl : ¬ p (D 23 n) < 0) (hr : ¬ ((zp_lit D o = true ∧ ¬ zp_rm D o (D 24 n) = true) ∨ (¬ zp_lit D o = true ∧ p (D 24 n) < 0))) (hm : zp_ipv D o n = true ∧ mv < 0) : zp_c D p mv o n = -1 := by
  unfold zp_c
  rw [if_neg h1, if_neg (fun q => q h), if_neg hl, if_neg hr, if_pos hm]
theorem zp_c_y (h1 : ¬ D 21 n = 1) (h : 3 ≤ zx_form D o ∧ D 6 (18 * o + 3) = D 22 n) (hl : ¬ p (D 23 n) < 0) (hr : ¬ ((zp_lit D o = true ∧ ¬ zp_rm D o (D 24 n) = true) ∨ (¬ zp_lit D o = true ∧ p (D 24 n) < 0))) (hm : ¬ (zp_ipv D o n = true ∧ mv < 0)) : zp_c D p mv o n = p (D 23 n) + (if zp_lit D o = true then 0 else p (D 24 n)) + D 7 o + (if zp_ipv D o n = true then D 7 mv else 0) := by
  unfold zp_c
  rw [if_neg h1, if_neg (fun q => q h), if_neg hl, if_neg hr, if_neg hm]
/-- only the sides' prices count, and only at a sign -/
theorem zp_c_p {p' : Int → Int} (hl : D 21 n ≠ 1 → p' (D 23 n) = p (D 23 n)) (hr : D 21 n ≠ 1 → p' (D 24 n) = p (D 24 n)) : zp_c D p' mv o n = zp_c D p mv o n := by
  by_cases h1 : D 21 n = 1
  · unfold zp_c
    rw [if_pos h1, if_pos h1]
  · unfold zp_c
    rw [hl h1, hr h1]
end ZPC
def zp_bF (c : Int → Int) : Nat → Int × Int
  | 0 => (-1, -1)
  | k + 1 => if 0 ≤ c k ∧ ((zp_bF c k).1 < 0 ∨ c k < (zp_bF c k).1) then (c k, (k : Int)) else zp_bF c k
/-- the least of the costs that are there, and the first that has it -/
def zp_b (c : Int → Int) (k : Int) : Int × Int := zp_bF c k.toNat
theorem zp_b_0 (c : Int → Int) : zp_b c 0 = (-1, -1) := rfl
theorem zp_b_e (c : Int → Int) {k : Int} (h : 0 ≤ k) : zp_b c (k + 1) = if 0 ≤ c k ∧ ((zp_b c k).1 < 0 ∨ c k < (zp_b c k).1) then (c k, k) else zp_b c k := by
  obtain ⟨j, rfl⟩ := Int.eq_ofNat_of_zero_le h
  rfl
theorem zp_b_y {c : Int → Int} {k : Int} (h : 0 ≤ k) (hc : 0 ≤ c k ∧ ((zp_b c k).1 < 0 ∨ c k < (zp_b c k).1)) : zp_b c (k + 1) = (c k, k) := by rw [zp_b_e c h, if_pos hc]
theorem zp_b_n {c : Int → Int} {k : Int} (h : 0 ≤ k) (hc : ¬ (0 ≤ c k ∧ ((zp_b c k).1 < 0 ∨ c k < (zp_b c k).1))) : zp_b c (k + 1) = zp_b c k := by rw [zp_b_e c h, if_neg hc]
theorem zp_bF_r (c : Int → Int) : ∀ k : Nat, (0 ≤ (zp_bF c k).1 ∧ 0 ≤ (zp_bF c k).2 ∧ (zp_bF c k).2 < k ∧ c (zp_bF c k).2 = (zp_bF c k).1) ∨ ((zp_bF c k).1 = -1 ∧ (zp_bF c k).2 = -1) := by
  intro k
  induction k with
  | zero => exact Or.inr ⟨rfl, rfl⟩
  | succ k ih =>
    show (0 ≤ (if 0 ≤ c k ∧ ((zp_bF c k).1 < 0 ∨ c k < (zp_bF c k).1) then (c k, (k : Int)) else zp_bF c k).1 ∧ 0 ≤ (if 0 ≤ c k ∧ ((zp_bF c k).1 < 0 ∨ c k < (zp_bF c k).1) then (c k, (k : Int)) else zp_bF c k).2 ∧ (if 0 ≤ c k ∧ ((zp_bF c k).1 < 0 ∨ c k < (zp_bF c k).1) then (c k, (k : Int)) else zp_bF c k).2 < ((k + 1 : Nat) : Int) ∧ c (if 0 ≤ c k ∧ ((zp_bF c k).1 < 0 ∨ c k < (zp_bF c k).1) then (c k, (k : Int)) else zp_bF c k).2 = (if 0 ≤ c k ∧ ((zp_bF c k).1 < 0 ∨ c k < (zp_bF c k).1) then (c k, (k : Int)) else zp_bF c k).1) ∨ ((if 0 ≤ c k ∧ ((zp_bF c k).1 < 0 ∨ c k < (zp_bF c k).1) then (c k, (k : Int)) else zp_bF c k).1 = -1 ∧ (if 0 ≤ c k ∧ ((zp_bF c k).1 < 0 ∨ c k < (zp_bF c k).1) then (c k, (k : Int)) else zp_bF c k).2 = -1)
    by_cases h : 0 ≤ c k ∧ ((zp_bF c k).1 < 0 ∨ c k < (zp_bF c k).1)
    · rw [if_pos h]
      exact Or.inl ⟨h.1, by show (0 : Int) ≤ k; omega, by show (k : Int) < ((k + 1 : Nat) : Int); omega, rfl⟩
    · rw [if_neg h]
      rcases ih with ⟨a, b, d, e⟩ | q
      · exact Or.inl ⟨a, b, by omega, e⟩
      · exact Or.inr q
theorem zp_b_r (c : Int → Int) (k : Int) : (0 ≤ (zp_b c k).1 ∧ 0 ≤ (zp_b c k).2 ∧ (0 ≤ k → (zp_b c k).2 < k) ∧ c (zp_b c k).2 = (zp_b c k).1) ∨ ((zp_b c k).1 = -1 ∧ (zp_b c k).2 = -1) := by
  rcases zp_bF_r c k.toNat with ⟨a, b, d, e⟩ | q
  · exact Or.inl ⟨a, b, fun h => by have d' : (zp_b c k).2 < ((k.toNat : Nat) : Int) := d; omega, e⟩
  · exact Or.inr q
def zp_prF (D : zq_S) (mv : Int) : Nat → Int → Int × Int
  | 0 => fun _ => (-1, -1)
  | n + 1 => fun j => if j = n then (if D 21 n = 0 then (0, -1) else zp_b (fun o => zp_c D (fun i => (zp_prF D mv n i).1) mv o n) (D 0 3)) else zp_prF D mv n j
/-- the first n nodes: price and ORDER -/
def zp_pr (D : zq_S) (mv n j : Int) : Int × Int := zp_prF D mv n.toNat j
/-- the costs of node n -/
def zp_k (D : zq_S) (mv n : Int) : Int → Int := fun o => zp_c D (fun i => (zp_pr D mv n i).1) mv o n
theorem zp_pr_e (D : zq_S) (mv : Int) {n : Int} (h : 0 ≤ n) (j : Int) : zp_pr D mv (n + 1) j = if j = n then (if D 21 n = 0 then (0, -1) else zp_b (zp_k D mv n) (D 0 3)) else zp_pr D mv n j := by
  obtain ⟨k, rfl⟩ := Int.eq_ofNat_of_zero_le h
  rfl
theorem zp_pr_o {D : zq_S} {mv n j : Int} (h : 0 ≤ n) (hj : j ≠ n) : zp_pr D mv (n + 1) j = zp_pr D mv n j := by rw [zp_pr_e D mv h, if_neg hj]
theorem zp_pr_v {D : zq_S} {mv n : Int} (h : 0 ≤ n) (hv : D 21 n = 0) : zp_pr D mv (n + 1) n = (0, -1) := by rw [zp_pr_e D mv h, if_pos rfl, if_pos hv]
theorem zp_pr_w {D : zq_S} {mv n : Int} (h : 0 ≤ n) (hv : ¬ D 21 n = 0) : zp_pr D mv (n + 1) n = zp_b (zp_k D mv n) (D 0 3) := by rw [zp_pr_e D mv h, if_pos rfl, if_neg hv]
/-- the whole sum's price -/
def zp_q (D : zq_S) : Int := if D 21 (D 0 37 - 1) = 0 then (if zx_lm D (D 0 3) < 0 then -1 else D 7 (zx_lm D (D 0 3))) else (zp_pr D (zx_lm D (D 0 3)) (D 0 37) (D 0 37 - 1)).1
theorem zp_c_b {D : zq_S} {p : Int → Int} {mv o n B C : Int} (h7 : ∀ o, 0 ≤ D 7 o ∧ D 7 o ≤ 1000) (hl : ¬ D 21 n = 1 → p (D 23 n) ≤ B) (hr : ¬ D 21 n = 1 → p (D 24 n) ≤ C) (hB : 0 ≤ B) (hC : 0 ≤ C) : zp_c D p mv o n ≤ B + C + 2000 := by
  have a := h7 o
  have b := h7 mv
  by_cases h1 : D 21 n = 1
  · by_cases h : zx_form D o = 1 ∧ zp_rm D o n = true
    · rw [zp_c_1y h1 h]; omega
    · rw [zp_c_1n h1 h]; omega
  · have q1 := hl h1
    have q2 := hr h1
    by_cases h : 3 ≤ zx_form D o ∧ D 6 (18 * o + 3) = D 22 n
    · by_cases h2 : p (D 23 n) < 0
      · rw [zp_c_l h1 h h2]; omega
      · by_cases h3 : (zp_lit D o = true ∧ ¬ zp_rm D o (D 24 n) = true) ∨ (¬ zp_lit D o = true ∧ p (D 24 n) < 0)
        · rw [zp_c_r h1 h h2 h3]; omega
        · by_cases h4 : zp_ipv D o n = true ∧ mv < 0
          · rw [zp_c_m h1 h h2 h3 h4]; omega
          · rw [zp_c_y h1 h h2 h3 h4]
            split <;> split <;> omega
    · rw [zp_c_s h1 h]; omega
theorem zp_pr_bd {D : zq_S} {mv N : Int} {f : Int → Int} (ht : zx_tree (D 21) (D 23) (D 24) f N) (h7 : ∀ o, 0 ≤ D 7 o ∧ D 7 o ≤ 1000) (h21 : ∀ i, 0 ≤ D 21 i ∧ D 21 i ≤ 2) : ∀ k : Nat, (k : Int) ≤ N → ∀ j : Int, 0 ≤ j → j < (k : Int) → -1 ≤ (zp_pr D mv k j).1 ∧ (zp_pr D mv k j).1 ≤ 2000 * (j - f j + 1) := by
  intro k
  induction k with
  | zero => intro _ j j0 j1; exact absurd j1 (by omega)
  | succ k ih =>
    intro hk j j0 j1
    have ih' := ih (by omega)
    rw [show ((k + 1 : Nat) : Int) = (k : Int) + 1 by omega]
    by_cases hj : j = (k : Int)
    · obtain ⟨t1, t2, t3, t4⟩ := ht j j0 (by omega)
      rw [hj] at t1 t2 t3 t4 ⊢
      by_cases hv : D 21 k = 0
      · rw [zp_pr_v (by omega) hv]
        show -1 ≤ (0 : Int) ∧ (0 : Int) ≤ _
        omega
      · rw [zp_pr_w (by omega) hv]
        rcases zp_b_r (zp_k D mv k) (D 0 3) with ⟨a, b, c, e⟩ | ⟨a, b⟩
        · refine ⟨by omega, ?_⟩
          rw [← e]
          show zp_c D (fun i => (zp_pr D mv k i).1) mv (zp_b (zp_k D mv k) (D 0 3)).2 k ≤ _
          by_cases h2 : D 21 k = 2
          · obtain ⟨s1, s2, s3, s4, s5⟩ := t3 h2
            have l1 := ih' (D 23 k) s4 (by omega)
            have r1 := ih' (D 24 k) (by omega) (by omega)
            have u1 := (ht (D 23 k) s4 (by omega)).2.1
            have u2 := (ht (D 24 k) (by omega) (by omega)).2.1
            have q := zp_c_b (p := fun i => (zp_pr D mv k i).1) (mv := mv) (o := (zp_b (zp_k D mv k) (D 0 3)).2) (n := k) (B := 2000 * (D 23 k - f (D 23 k) + 1)) (C := 2000 * (D 24 k - f (D 24 k) + 1)) h7 (fun _ => l1.2) (fun _ => r1.2) (by omega) (by omega)
            rw [s1] at q u2
            rw [s1] at r1
            omega
          · have h1 : D 21 k = 1 := by have := h21 k; omega
            have q := zp_c_b (p := fun i => (zp_pr D mv k i).1) (mv := mv) (o := (zp_b (zp_k D mv k) (D 0 3)).2) (n := k) (B := 0) (C := 0) h7 (fun h => absurd h1 h) (fun h => absurd h1 h) (by omega) (by omega)
            have := t4 h2
            omega
        · omega
    · rw [zp_pr_o (by omega) hj]
      exact ih' j j0 (by omega)
theorem zp_c_fr {D E : zq_S} {p : Int → Int} {mv o n : Int} (h2 : ∀ i, E 2 i = D 2 i) (h3 : ∀ i, E 3 i = D 3 i) (h5 : ∀ i, E 5 i = D 5 i) (h6 : ∀ i, E 6 i = D 6 i) (h7 : ∀ i, E 7 i = D 7 i) (hb : E 0 2 = D 0 2) (h21 : ∀ i, E 21 i = D 21 i) (h22 : ∀ i, E 22 i = D 22 i) (h23 : ∀ i, E 23 i = D 23 i) (h24 : ∀ i, E 24 i = D 24 i) : zp_c E p mv o n = zp_c D p mv o n := by
  unfold zp_c zp_lit zp_ipv zp_rm
  rw [zx_form_fr h2 h3 h5 h6 hb, zx_cnt_fr h2, hb, show E 21 = D 21 from funext h21, show E 22 = D 22 from funext h22, show E 23 = D 23 from funext h23, show E 24 = D 24 from funext h24, show E 6 = D 6 from funext h6, show E 7 = D 7 from funext h7]

