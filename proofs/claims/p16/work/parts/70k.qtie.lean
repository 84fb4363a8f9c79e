/-! ===== answers of the telling, side by side ===== -/
theorem zu_own {σ ρ : zq_S} {x r : Int} (h : zu_T3 σ ρ) (x0 : 0 ≤ x) (x1 : x < zx_p2 (ρ 0 2)) (ho : zt_ow ρ x r) : (σ 11 x = -1 ∧ r = -4) ∨ (σ 11 x = r ∧ 0 ≤ r ∧ r < ρ 0 3) := by
  obtain ⟨-, -, -, a5, a6⟩ := h
  have bb := a6 x x0 x1
  by_cases c : σ 11 x < 0
  · refine Or.inl ⟨(bb.1 c).1, ?_⟩
    by_cases d : r < 0
    · exact (ho.1 d).1
    · obtain ⟨b1, b2, -⟩ := ho.2 (by omega)
      exact absurd b2 ((bb.1 c).2 r (by omega) b1)
  · obtain ⟨b1, b2⟩ := bb.2 (by omega)
    by_cases d : r < 0
    · exact absurd b2 ((ho.1 d).2 _ (by omega) b1)
    · obtain ⟨g1, g2, -⟩ := ho.2 (by omega)
      refine Or.inr ⟨?_, by omega, g1⟩
      by_cases e : σ 11 x = r
      · exact e
      · exfalso
        by_cases f : σ 11 x < r
        · exact a5 _ r (by omega) f g1 (zt_is_co b2 g2)
        · exact a5 r _ (by omega) (by omega) b1 (zt_is_co g2 b2)
theorem zu_hl {σ ρ : zq_S} {n : Int} (h : zu_T3 σ ρ) (n0 : 0 ≤ n) (n1 : n < zx_p2 (ρ 0 2)) : σ 11 n = -1 ↔ zt_hl ρ n := by
  have bb := h.2.2.2.2 n n0 n1
  constructor
  · intro w
    exact (bb.1 (by omega)).2
  · intro w
    by_cases d : σ 11 n < 0
    · exact (bb.1 d).1
    · obtain ⟨b1, b2⟩ := bb.2 (by omega)
      exact absurd b2 (w _ (by omega) b1)
theorem zu_first_u {h h' : Int → Prop} {a p r s : Int} (hh : ∀ y, a ≤ y → y < p → (h y ↔ h' y)) (h1 : zu_first h a p r) (h2 : zu_first h' a p s) : r = s := by
  by_cases c : 0 ≤ r
  · obtain ⟨a1, a2, a3, a4⟩ := h1.1 c
    by_cases d : 0 ≤ s
    · obtain ⟨b1, b2, b3, b4⟩ := h2.1 d
      have n1 : ¬ r < s := fun q => b4 r a1 q ((hh r a1 a2).mp a3)
      have n2 : ¬ s < r := fun q => a4 s b1 q ((hh s b1 b2).mpr b3)
      omega
    · exact absurd ((hh r a1 a2).mp a3) ((h2.2 (by omega)).2 r a1 a2)
  · obtain ⟨a1, a2⟩ := h1.2 (by omega)
    by_cases d : 0 ≤ s
    · obtain ⟨b1, b2, b3, b4⟩ := h2.1 d
      exact absurd ((hh s b1 b2).mpr b3) (a2 s b1 b2)
    · obtain ⟨b1, b2⟩ := h2.2 (by omega)
      omega
theorem zu_flfm {σ ρ : zq_S} {a o : Int} (hx : zx_T ρ) (h : zu_lk σ ρ a o) : zu_fl (σ (a + 1)) 4 = zx_fm ρ o 4 := by
  have key : ∀ k : Nat, k ≤ 4 → zu_flF (σ (a + 1)) k = zx_fmN ρ o k := by
    intro k
    induction k with
    | zero => intro _; rfl
    | succ k ih =>
      intro hk
      have b := zu_bc hx h (f := (k : Int)) (by omega) (by omega)
      show zq_or (zu_flF (σ (a + 1)) k) (if σ (a + 1) k ≠ 0 then zq_shl 1 k else 0) = zq_or (zx_fmN ρ o k) (if 0 < zx_cnt ρ o k (ρ 0 2) then zq_shl 1 k else 0)
      rw [ih (by omega)]
      by_cases c : 0 < zx_cnt ρ o k (ρ 0 2)
      · rw [if_pos c, if_pos (fun q => by have := b.2.1.mp q; omega)]
      · rw [if_neg c, if_neg (fun q => q (b.2.1.mpr (by omega)))]
  exact key 4 (by decide)
theorem zu_about {σ ρ : zq_S} {a o w r s : Int} (hx : zx_T ρ) (h : zu_or σ ρ a o) (h1 : zu_ab σ a w r) (h2 : zu_abr ρ o w s) : r = s := by
  obtain ⟨p0, p1, p2, p3, p4, p5, p6⟩ := h1
  obtain ⟨q0, q1, q2, q3, q4, q5, q6⟩ := h2
  obtain ⟨g1, g2, g3, g4⟩ := h.2.2.1.1
  by_cases c0 : w = 0
  · rw [p0 c0, q0 c0]; exact g4
  by_cases c1 : w = 1
  · rw [p1 c1, q1 c1]; exact g3
  by_cases c2 : w = 2
  · rw [p2 c2, q2 c2]; exact g1
  by_cases c3 : w = 3
  · rw [p3 c3, q3 c3]; exact zu_flfm hx h.2.1
  by_cases c4 : w = 4
  · rw [p4 c4, q4 c4]; exact (zu_bc hx h.2.1 (by decide) (by decide)).1
  by_cases c5 : w = 5
  · rw [p5 c5, q5 c5]; exact h.2.1.2.1
  rw [p6 (by omega), q6 (by omega)]
theorem zu_aboutL {σ ρ : zq_S} {o w v u : Int} (hx : zx_T ρ) (h : zu_T3 σ ρ) (gp : zq_hid ((¬ (0 ≤ o ∧ o < σ 3 3) → v = -1) ∧ (0 ≤ o ∧ o < σ 3 3 → zu_ab σ (σ 10 o) w v))) (kp : zq_hid ((¬ (0 ≤ o ∧ o < ρ 0 3) → u = -1) ∧ (0 ≤ o ∧ o < ρ 0 3 → zu_abr ρ o w u))) : u = v := by
  have e := h.1.1
  by_cases c : 0 ≤ o ∧ o < ρ 0 3
  · exact (zu_about hx (h.2.2.1 o c.1 c.2) (gp.2 (by omega)) (kp.2 c)).symm
  · rw [gp.1 (by omega), kp.1 c]
theorem zu_lookL {σ ρ : zq_S} {x v u : Int} (h : zu_T3 σ ρ) (e2 : σ 3 2 = ρ 0 2) (gp : (¬ (0 ≤ x ∧ x < zx_p2 (σ 3 2)) → v = -1) ∧ (0 ≤ x ∧ x < zx_p2 (σ 3 2) → (σ 11 x < 0 → v = -4) ∧ (0 ≤ σ 11 x → v = σ 11 x))) (kp : ¬ (0 ≤ x ∧ x < zx_p2 (ρ 0 2)) → u = -1) (kw : zq_hid (0 ≤ x ∧ x < zx_p2 (ρ 0 2) → zt_ow ρ x u)) : u = v := by
  rw [e2] at gp
  by_cases c : 0 ≤ x ∧ x < zx_p2 (ρ 0 2)
  · obtain ⟨g1, g2⟩ := gp.2 c
    rcases zu_own h c.1 c.2 (kw c) with ⟨e, f⟩ | ⟨e, f, -⟩
    · rw [f, g1 (by omega)]
    · rw [g2 (by omega), e]
  · rw [gp.1 c, kp c]
theorem zu_holeL {σ ρ : zq_S} {x v u : Int} (h : zu_T3 σ ρ) (e2 : σ 3 2 = ρ 0 2) (gp : (¬ (0 ≤ x ∧ x < zx_p2 (σ 3 2)) → v = -1) ∧ zq_hid (0 ≤ x ∧ x < zx_p2 (σ 3 2) → zu_first (fun y => σ 11 y = -1) x (zx_p2 (σ 3 2)) v)) (kp : ¬ (0 ≤ x ∧ x < zx_p2 (ρ 0 2)) → u = -1) (kw : zq_hid (0 ≤ x ∧ x < zx_p2 (ρ 0 2) → zu_first (zt_hl ρ) x (zx_p2 (ρ 0 2)) u)) : u = v := by
  rw [e2] at gp
  by_cases c : 0 ≤ x ∧ x < zx_p2 (ρ 0 2)
  · exact (zu_first_u (fun y y0 y1 => zu_hl h (by omega) y1) (gp.2 c) (kw c)).symm
  · rw [gp.1 c, kp c]
theorem zu_roomL {σ ρ : zq_S} {a c v u : Int} (hT : zc_T σ) (hx : zx_T ρ) (h : zu_T3 σ ρ) (e2 : σ 3 2 = ρ 0 2) (gp : zq_hid ((¬ (0 ≤ a ∧ a < σ 3 3 ∧ 0 ≤ c ∧ c < σ 3 3) → v = -1) ∧ (0 ≤ a ∧ a < σ 3 3 ∧ 0 ≤ c ∧ c < σ 3 3 → zu_rc σ (σ 10 a) (σ 10 c) v))) (kp : ¬ (0 ≤ a ∧ a < ρ 0 3 ∧ 0 ≤ c ∧ c < ρ 0 3) → u = -1) (kw : zq_hid (0 ≤ a ∧ a < ρ 0 3 ∧ 0 ≤ c ∧ c < ρ 0 3 → zt_rr ρ a c u)) : u = v := by
  have e := h.1.1
  have z3 := zx_g3 hx
  by_cases d : 0 ≤ a ∧ a < ρ 0 3 ∧ 0 ≤ c ∧ c < ρ 0 3
  · exact (zu_room hT hx h e2 (zc_ga10 hT zc_s10 a d.1 (by omega)) (zc_ga10 hT zc_s10 c d.2.2.1 (by omega)) (h.2.2.1 a d.1 d.2.1) (h.2.2.1 c d.2.2.1 d.2.2.2) (gp.2 (by omega)) (kw d)).symm
  · rw [gp.1 (by omega), kp d]
/-- the bits of a number, both ways -/
theorem zu_cM_bi {b y i : Int} (b12 : b ≤ 12) (hy : 0 ≤ y ∧ y < zx_p2 b) (i0 : 0 ≤ i) (i1 : i < b) : zu_cM y (12 - b + i) = decide (zt_bi b y i = 1) := by
  have h2 := zx_p2_le (m := b) (n := 12) b12
  have e12 := zx_p2_12
  have q := zu_and_p2 (y := y) (j := b - 1 - i) ⟨hy.1, by omega⟩ ⟨by omega, by omega⟩
  have v := zt_bi_v (b := b) (x := y) (i := i) ⟨hy.1, by omega⟩ i0 i1 b12
  unfold zu_cM
  rw [show 11 - (12 - b + i) = b - 1 - i by omega]
  refine decide_eq_decide.mpr ?_
  rw [v]
  constructor
  · intro w
    have : ¬ y / 2 ^ (b - 1 - i).toNat % 2 = 0 := fun g => w (q.mpr g)
    omega
  · intro w g
    have := q.mp g
    omega
theorem zu_cM_hi {b y i : Int} (b0 : 0 ≤ b) (b12 : b ≤ 12) (hy : 0 ≤ y ∧ y < zx_p2 b) (i0 : 0 ≤ i) (i1 : i < 12 - b) : ¬ zu_cM y i = true := by
  have h2 := zx_p2_le (m := b) (n := 12) b12
  have e12 := zx_p2_12
  have h3 := zx_p2_le (m := b) (n := 11 - i) (by omega)
  have q := zu_and_p2 (y := y) (j := 11 - i) ⟨hy.1, by omega⟩ ⟨by omega, by omega⟩
  refine zu_cM_n (q.mpr ?_)
  have e : y / 2 ^ (11 - i).toNat = 0 := Int.ediv_eq_zero_of_lt hy.1 (by show y < zx_p2 (11 - i); omega)
  rw [e]
  rfl
theorem zu_fo_tie {σ ρ : zq_S} {a o f x : Int} (hx : zx_T ρ) (lk : zu_lk σ ρ a o) (f0 : 0 ≤ f) (f3 : f ≤ 3) (x0 : 0 ≤ x) (x1 : x < zx_p2 (ρ 0 2)) : zu_fo (zu_cM (σ (a + 1) f)) (zu_cM x) 12 = zu_rf ρ o x f := by
  have zb := zx_g2 hx
  have em := lk.2.2 f f0 f3
  have hm := zt_mk_r (fun i => decide (zt_L ρ o i = 2 + f)) (ρ 0 2)
  rw [← em] at hm
  have k := zu_fo_sk (M := zu_cM (σ (a + 1) f)) (X := zu_cM x) (M' := fun i => decide (zt_L ρ o i = 2 + f)) (X' := fun i => decide (zt_bi (ρ 0 2) x i = 1)) (a := 12 - ρ 0 2) (k := ρ 0 2) (by omega) (by omega) (fun i i0 i1 => zu_cM_hi (by omega) (by omega) hm i0 i1) (fun i i0 i1 => ⟨?_, zu_cM_bi (by omega) ⟨x0, x1⟩ i0 i1⟩)
  · rw [show 12 - ρ 0 2 + ρ 0 2 = 12 by omega] at k
    exact k
  · rw [zu_cM_bi (by omega) hm i0 i1, em]
    have w := zt_bi_mk (P := fun i => decide (zt_L ρ o i = 2 + f)) (b := ρ 0 2) (by omega) (by omega) i0 i1
    by_cases c : zt_L ρ o i = 2 + f
    · rw [decide_eq_true c]
      exact decide_eq_true (w.mpr (decide_eq_true c))
    · rw [decide_eq_false c]
      exact decide_eq_false (fun g => c (of_decide_eq_true (w.mp g)))
theorem zu_fieldL {σ ρ : zq_S} {x f v u : Int} (hx : zx_T ρ) (h : zu_T3 σ ρ) (e2 : σ 3 2 = ρ 0 2) (gp : zq_hid ((¬ (0 ≤ x ∧ x < zx_p2 (σ 3 2) ∧ 0 ≤ f ∧ f ≤ 3) → v = -1) ∧ ((0 ≤ x ∧ x < zx_p2 (σ 3 2) ∧ 0 ≤ f ∧ f ≤ 3) → (¬ (0 ≤ σ 11 x ∧ σ 11 x < σ 3 3) → v = -4) ∧ ((0 ≤ σ 11 x ∧ σ 11 x < σ 3 3) → (σ (σ 10 (σ 11 x) + 1) f = 0 → v = -4) ∧ (σ (σ 10 (σ 11 x) + 1) f ≠ 0 → v = zu_fo (zu_cM (σ (σ 10 (σ 11 x) + 1) f)) (zu_cM x) 12))))) (kp : zq_hid ((¬ (0 ≤ x ∧ x < zx_p2 (ρ 0 2) ∧ 0 ≤ f ∧ f ≤ 3) → u = -1) ∧ ((0 ≤ x ∧ x < zx_p2 (ρ 0 2) ∧ 0 ≤ f ∧ f ≤ 3) → ∃ o, zt_ow ρ x o ∧ (o < 0 → u = -4) ∧ (0 ≤ o → (¬ 0 < zx_cnt ρ o f (ρ 0 2) → u = -4) ∧ (0 < zx_cnt ρ o f (ρ 0 2) → u = zu_rf ρ o x f))))) : u = v := by
  have e := h.1.1
  unfold zq_hid at gp kp
  rw [e2] at gp
  by_cases c : 0 ≤ x ∧ x < zx_p2 (ρ 0 2) ∧ 0 ≤ f ∧ f ≤ 3
  · obtain ⟨g1, g2⟩ := gp.2 c
    obtain ⟨o, ho, k1, k2⟩ := kp.2 c
    rcases zu_own h c.1 c.2.1 ho with ⟨w, z⟩ | ⟨w, z, z2⟩
    · rw [k1 (by omega), g1 (by omega)]
    · obtain ⟨g3, g4⟩ := g2 (by omega)
      obtain ⟨k3, k4⟩ := k2 z
      rw [w] at g3 g4
      have lk := (h.2.2.1 o z z2).2.1
      have b := zu_bc hx lk c.2.2.1 c.2.2.2
      by_cases d : 0 < zx_cnt ρ o f (ρ 0 2)
      · rw [k4 d, g4 (fun q => by have := b.2.1.mp q; omega)]
        exact (zu_fo_tie hx lk c.2.2.1 c.2.2.2 c.1 c.2.1).symm
      · rw [k3 d, g3 (b.2.1.mpr (by omega))]
  · rw [gp.1 c, kp.1 c]
