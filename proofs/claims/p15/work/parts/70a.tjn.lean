/-! ===== the ORDER of both, side by side ===== -/
theorem zu_mk_iv {b lo hi : Int} (h0 : 0 ≤ lo) (h1 : lo ≤ hi) (h2 : hi ≤ b) : zt_mk (fun i => decide (lo ≤ i ∧ i < hi)) b = (zx_p2 (hi - lo) - 1) * zx_p2 (b - hi) := by
  have key : ∀ k : Nat, ((k : Int) ≤ lo → zt_mk (fun i => decide (lo ≤ i ∧ i < hi)) k = 0) ∧ (lo ≤ (k : Int) → (k : Int) ≤ hi → zt_mk (fun i => decide (lo ≤ i ∧ i < hi)) k = zx_p2 ((k : Int) - lo) - 1) ∧ (hi ≤ (k : Int) → zt_mk (fun i => decide (lo ≤ i ∧ i < hi)) k = (zx_p2 (hi - lo) - 1) * zx_p2 ((k : Int) - hi)) := by
    intro k
    induction k with
    | zero =>
      refine ⟨fun _ => rfl, fun a _ => ?_, fun a => ?_⟩
      · rw [show (((0 : Nat) : Int)) - lo = 0 by omega]; rfl
      · rw [show hi - lo = 0 by omega, zx_p2_0, Int.sub_self, Int.zero_mul]; rfl
    | succ k ih =>
      obtain ⟨i1, i2, i3⟩ := ih
      have es := zt_mk_e (fun i => decide (lo ≤ i ∧ i < hi)) (j := (k : Int)) (by omega)
      rw [show ((k + 1 : Nat) : Int) = (k : Int) + 1 by omega]
      have hn : ¬ (lo ≤ (k : Int) ∧ (k : Int) < hi) → zt_mk (fun i => decide (lo ≤ i ∧ i < hi)) ((k : Int) + 1) = 2 * zt_mk (fun i => decide (lo ≤ i ∧ i < hi)) k := fun c => by
        rw [es, if_neg (fun q => c (of_decide_eq_true q)), Int.add_zero]
      have hy : (lo ≤ (k : Int) ∧ (k : Int) < hi) → zt_mk (fun i => decide (lo ≤ i ∧ i < hi)) ((k : Int) + 1) = 2 * zt_mk (fun i => decide (lo ≤ i ∧ i < hi)) k + 1 := fun c => by
        rw [es, if_pos (decide_eq_true c)]
      refine ⟨fun a => ?_, fun a c => ?_, fun a => ?_⟩
      · rw [hn (by omega), i1 (by omega)]; rfl
      · by_cases d : (k : Int) + 1 = lo
        · rw [hn (by omega), i1 (by omega), show (k : Int) + 1 - lo = 0 by omega]; rfl
        · have e := zx_p2_s ((k : Int) - lo) (by omega)
          rw [hy (by omega), i2 (by omega) (by omega), show (k : Int) + 1 - lo = (k : Int) - lo + 1 by omega, e]
          omega
      · by_cases d : (k : Int) + 1 = hi
        · by_cases g : (k : Int) + 1 = lo
          · rw [hn (by omega), i1 (by omega), show hi - lo = 0 by omega, zx_p2_0, Int.sub_self, Int.zero_mul]; rfl
          · have e := zx_p2_s ((k : Int) - lo) (by omega)
            rw [hy (by omega), i2 (by omega) (by omega), show (k : Int) + 1 - hi = 0 by omega, zx_p2_0, Int.mul_one, show hi - lo = (k : Int) - lo + 1 by omega, e]
            omega
        · have e := zx_p2_s ((k : Int) - hi) (by omega)
          rw [hn (by omega), i3 (by omega), show (k : Int) + 1 - hi = (k : Int) - hi + 1 by omega, e, Int.mul_left_comm]
  have q := (key b.toNat).2.2 (by omega)
  rw [show ((b.toNat : Nat) : Int) = b by omega] at q
  exact q
theorem zu_bi_mul {b q rb m i : Int} (hq : q = m * zx_p2 rb) (q0 : 0 ≤ q) (q1 : q < zx_p2 b) (hb : b ≤ 12) (hi : b - rb ≤ i) (i0 : 0 ≤ i) (i1 : i < b) : zt_bi b q i = 0 := by
  have h2 := zx_p2_le (m := b) (n := 12) hb
  have e12 := zx_p2_12
  rw [zt_bi_v ⟨q0, by omega⟩ i0 i1 hb]
  have e1 : zx_p2 rb = zx_p2 (b - 1 - i) * (2 * zx_p2 (rb - (b - 1 - i) - 1)) := by
    rw [← zx_p2_s _ (by omega), ← zx_p2_add (by omega) (by omega)]
    congr 1
    omega
  have e2 : q = zx_p2 (b - 1 - i) * (2 * (m * zx_p2 (rb - (b - 1 - i) - 1))) := by
    rw [hq, e1, Int.mul_left_comm, Int.mul_left_comm m 2]
  have hp := zx_p2_pos (b - 1 - i)
  have e3 : q / 2 ^ (b - 1 - i).toNat = 2 * (m * zx_p2 (rb - (b - 1 - i) - 1)) := by
    show q / zx_p2 (b - 1 - i) = _
    rw [e2]
    exact Int.mul_ediv_cancel_left _ (by omega)
  rw [e3]
  exact Int.mul_emod_right _ _
theorem zu_top {b x y rb : Int} (hb : b ≤ 12) (hx : 0 ≤ x ∧ x < zx_p2 b) (hy : 0 ≤ y ∧ y < zx_p2 b) (r0 : 0 ≤ rb) (r1 : rb ≤ b) (h : ∀ i, 0 ≤ i → i < b - rb → zt_bi b x i = zt_bi b y i) : x / zx_p2 rb = y / zx_p2 rb := by
  have h2 := zx_p2_le (m := b) (n := 12) hb
  have e12 := zx_p2_12
  have ex := zt_mk_divF (b := b) (x := x) ⟨hx.1, by omega⟩ hb hx.2 (b - rb).toNat (by omega)
  have ey := zt_mk_divF (b := b) (x := y) ⟨hy.1, by omega⟩ hb hy.2 (b - rb).toNat (by omega)
  rw [show (b - (((b - rb).toNat : Nat) : Int)).toNat = rb.toNat by omega] at ex ey
  show x / 2 ^ rb.toNat = y / 2 ^ rb.toNat
  rw [← ex, ← ey]
  exact zt_mk_cF _ (fun i i0 i1 => by show decide (zt_bi b x i = 1) = decide (zt_bi b y i = 1); rw [h i i0 (by omega)])
theorem zu_lk_join {τ π : zq_S} {sp N b q : Int} {F : Int → Int} (hb : π 0 2 = b) (b12 : b ≤ 12) (F0 : F 0 = 0) (F1 : F 0 ≤ F 1) (F2 : F 1 ≤ F 2) (F3 : F 2 ≤ F 3) (F4 : F 3 ≤ F 4) (r4 : F 4 ≤ b) (hm : ∃ m, 0 ≤ m ∧ q = m * zx_p2 (F 4)) (hq : 0 ≤ q ∧ q < zx_p2 b) (L1 : ∀ i, 0 ≤ i → i < b - F 4 → zt_L π N i = zt_bi b q i) (L2 : ∀ f, 0 ≤ f → f ≤ 3 → ∀ i, b - F 4 + F f ≤ i → i < b - F 4 + F (f + 1) → zt_L π N i = 2 + f) (t1 : τ sp 1 = zx_p2 b - zx_p2 (F 4)) (t2 : τ sp 2 = q) (t3 : ∀ f, 0 ≤ f → f ≤ 3 → τ (sp + 1) f = (zx_p2 (F (f + 1) - F f) - 1) * zx_p2 (F 4 - F (f + 1))) : zu_lk τ π sp N := by
  have h2 := zx_p2_le (m := b) (n := 12) b12
  have e12 := zx_p2_12
  have bi : ∀ i, 0 ≤ i → i < b → zt_bi b q i = 0 ∨ zt_bi b q i = 1 := fun i i0 i1 => zt_bi_01 ⟨hq.1, by omega⟩ i0 i1 b12
  have cov : ∀ i, b - F 4 ≤ i → i < b → ∃ f, 0 ≤ f ∧ f ≤ 3 ∧ b - F 4 + F f ≤ i ∧ i < b - F 4 + F (f + 1) := by
    intro i i0 i1
    by_cases c1 : i < b - F 4 + F 1
    · exact ⟨0, by decide, by decide, by omega, c1⟩
    by_cases c2 : i < b - F 4 + F 2
    · exact ⟨1, by decide, by decide, by omega, c2⟩
    by_cases c3 : i < b - F 4 + F 3
    · exact ⟨2, by decide, by decide, by omega, c3⟩
    exact ⟨3, by decide, by decide, by omega, show i < b - F 4 + F 4 by omega⟩
  have ge2 : ∀ i, b - F 4 ≤ i → i < b → 2 ≤ zt_L π N i := fun i i0 i1 => by
    obtain ⟨f, f0, f3, c1, c2⟩ := cov i i0 i1
    have := L2 f f0 f3 i c1 c2
    omega
  refine ⟨?_, ?_, fun f f0 f3 => ?_⟩
  · rw [t1, hb]
    have e : zt_mk (fun i => decide (zt_L π N i ≤ 1)) b = zt_mk (fun i => decide (0 ≤ i ∧ i < b - F 4)) b := zt_mk_c (fun i i0 i1 => by
      show decide (zt_L π N i ≤ 1) = decide (0 ≤ i ∧ i < b - F 4)
      refine decide_eq_decide.mpr ⟨fun w => ?_, fun w => ?_⟩
      · by_cases c : i < b - F 4
        · exact ⟨i0, c⟩
        · have := ge2 i (by omega) i1
          omega
      · have := L1 i i0 w.2
        have := bi i i0 i1
        omega)
    rw [e, zu_mk_iv (by decide) (by omega) (by omega), show b - (b - F 4) = F 4 by omega, Int.sub_zero, Int.sub_mul, Int.one_mul, ← zx_p2_add (by omega) (by omega), show b - F 4 + F 4 = b by omega]
  · rw [t2, hb]
    have e := zt_mk_bi (b := b) (x := q) (by omega) b12 hq
    refine e.trans (zt_mk_c (fun i i0 i1 => ?_))
    show decide (zt_bi b q i = 1) = decide (zt_L π N i = 1)
    by_cases c : i < b - F 4
    · rw [L1 i i0 c]
    · obtain ⟨m, m0, em⟩ := hm
      have e1 := zu_bi_mul em hq.1 hq.2 b12 (i := i) (by omega) i0 i1
      have := ge2 i (by omega) i1
      rw [decide_eq_false (show ¬ zt_bi b q i = 1 by omega), decide_eq_false (show ¬ zt_L π N i = 1 by omega)]
  · have fb : 0 ≤ F f ∧ F f ≤ F (f + 1) ∧ F (f + 1) ≤ F 4 := by
      have hf : f = 0 ∨ f = 1 ∨ f = 2 ∨ f = 3 := by omega
      rcases hf with rfl | rfl | rfl | rfl
      · exact ⟨by omega, F1, show F 1 ≤ F 4 by omega⟩
      · exact ⟨by omega, F2, show F 2 ≤ F 4 by omega⟩
      · exact ⟨by omega, F3, show F 3 ≤ F 4 by omega⟩
      · exact ⟨by omega, F4, Int.le_refl _⟩
    rw [t3 f f0 f3, hb]
    have e : zt_mk (fun i => decide (zt_L π N i = 2 + f)) b = zt_mk (fun i => decide (b - F 4 + F f ≤ i ∧ i < b - F 4 + F (f + 1))) b := zt_mk_c (fun i i0 i1 => by
      show decide (zt_L π N i = 2 + f) = decide (b - F 4 + F f ≤ i ∧ i < b - F 4 + F (f + 1))
      refine decide_eq_decide.mpr ⟨fun w => ?_, fun w => L2 f f0 f3 i w.1 w.2⟩
      by_cases c : i < b - F 4
      · have := L1 i i0 c
        have := bi i i0 i1
        omega
      · obtain ⟨g, g0, g3, c1, c2⟩ := cov i (by omega) i1
        have := L2 g g0 g3 i c1 c2
        have hg : g = f := by omega
        rw [hg] at c1 c2
        exact ⟨c1, c2⟩)
    rw [e, zu_mk_iv (by omega) (by omega) (by omega), show b - F 4 + F (f + 1) - (b - F 4 + F f) = F (f + 1) - F f by omega, show b - (b - F 4 + F (f + 1)) = F 4 - F (f + 1) by omega]
theorem zu_bcF : ∀ m s : Fin 13, m.val + s.val ≤ 12 → zt_bc ((((2 ^ m.val - 1) * 2 ^ s.val : Nat) : Nat) : Int) = ((m.val : Nat) : Int) := by decide +kernel
theorem zu_bcm {m s : Int} (h0 : 0 ≤ m) (s0 : 0 ≤ s) (h : m + s ≤ 12) : zt_bc ((zx_p2 m - 1) * zx_p2 s) = m := by
  have q : m.toNat + s.toNat ≤ 12 → zt_bc ((((2 ^ m.toNat - 1) * 2 ^ s.toNat : Nat) : Nat) : Int) = ((m.toNat : Nat) : Int) := zu_bcF ⟨m.toNat, by omega⟩ ⟨s.toNat, by omega⟩
  have q := q (by omega)
  have e : (((2 ^ m.toNat - 1) * 2 ^ s.toNat : Nat) : Int) = ((2 : Int) ^ m.toNat - 1) * 2 ^ s.toNat := by
    rw [Int.natCast_mul, Int.natCast_sub Nat.one_le_two_pow, Int.natCast_pow, Int.natCast_pow]
    rfl
  rw [e, show ((m.toNat : Nat) : Int) = m by omega] at q
  exact q
theorem zu_fok_join {τ : zq_S} {sp k w : Int} {F : Int → Int} (F0 : F 0 = 0) (F1 : F 0 ≤ F 1) (F2 : F 1 ≤ F 2) (F3 : F 2 ≤ F 3) (F4 : F 3 ≤ F 4) (r4 : F 4 ≤ 12) (t3 : ∀ f, 0 ≤ f → f ≤ 3 → τ (sp + 1) f = (zx_p2 (F (f + 1) - F f) - 1) * zx_p2 (F 4 - F (f + 1))) (hk : ∀ f, 0 ≤ f → f ≤ 2 → F (f + 1) - F f = 0 ∨ F (f + 1) - F f = k) (hw : F 4 - F 3 ≤ w) : zt_fok (τ (sp + 1)) k w := by
  refine ⟨fun f f0 f2 hn => ?_, ?_⟩
  · have fb : F f ≤ F (f + 1) ∧ F (f + 1) ≤ F 4 ∧ 0 ≤ F f := by
      have hf : f = 0 ∨ f = 1 ∨ f = 2 := by omega
      rcases hf with rfl | rfl | rfl
      · exact ⟨F1, show F 1 ≤ F 4 by omega, by omega⟩
      · exact ⟨F2, show F 2 ≤ F 4 by omega, by omega⟩
      · exact ⟨F3, show F 3 ≤ F 4 by omega, by omega⟩
    have e := t3 f f0 (by omega)
    rw [e, zu_bcm (by omega) (by omega) (by omega)]
    rcases hk f f0 f2 with g | g
    · exact absurd (by rw [e, g, zx_p2_0, Int.sub_self, Int.zero_mul]) hn
    · exact g
  · have e : τ (sp + 1) 3 = (zx_p2 (F 4 - F 3) - 1) * zx_p2 (F 4 - F 4) := t3 3 (by decide) (by decide)
    rw [e, zu_bcm (by omega) (by omega) (by omega)]
    exact hw
theorem zu_ac_join {σ τ ρ π : zq_S} {sp a c x y q nm : Int} (hx : zx_T ρ) (ha : zu_ac σ ρ a x) (hc : zu_ac σ ρ c y) (cr : zt_cr ρ x y) (t4 : τ sp 4 = 0) (t5 : τ sp 5 = 0) (t11 : τ sp 11 = σ a 11 + σ c 11 - 1) (ja : zt_ja σ τ sp a c) (lj : zt_lj ρ π x y q nm) : zu_ac τ π sp (ρ 0 3) := by
  obtain ⟨⟨a1, a2, a3, a4⟩, a5, a6, a7, a8⟩ := ha
  obtain ⟨⟨c1, c2, c3, c4⟩, c5, c6, c7, c8⟩ := hc
  obtain ⟨j1, j2, j3, j4⟩ := ja
  obtain ⟨l1, l3, l4, l5, l7, l6, -, -⟩ := lj
  have hxa := zx_ga5 hx x
  have hxc := zx_ga5 hx y
  have ga : σ a 4 = 0 := by have := cr.1; omega
  have gc : σ c 4 = 0 := by have := cr.2.1; omega
  rw [a3, c3] at j1 j2
  rw [a3, c3] at j3
  simp only [a3, c3] at j4
  refine ⟨⟨by omega, by omega, by omega, by omega⟩, fun g => absurd t4 g, fun j j0 k1 => ?_, ?_, ?_⟩
  · rw [l5] at k1
    by_cases d : j < ρ 5 x
    · have P : ∀ e, 0 ≤ e → e ≤ 5 → π 6 (18 * ρ 0 3 + 6 * j + e) = ρ 6 (18 * x + 6 * j + e) := fun e e0 e5 => by
        have w := l6 (6 * j + e) (by omega) (by omega)
        rw [if_pos (by omega)] at w
        rw [show 18 * ρ 0 3 + 6 * j + e = 18 * ρ 0 3 + (6 * j + e) by omega, w, show 18 * x + 6 * j + e = 18 * x + (6 * j + e) by omega]
      have P0 := P 0 (by decide) (by decide)
      rw [Int.add_zero, Int.add_zero] at P0
      have w := a6 j j0 d
      unfold zu_row at w ⊢
      rw [P0, P 1 (by decide) (by decide), P 2 (by decide) (by decide), P 3 (by decide) (by decide), P 4 (by decide) (by decide), P 5 (by decide) (by decide), (j4 2 (by decide) (by decide) j j0).1 d, (j4 3 (by decide) (by decide) j j0).1 d, (j4 4 (by decide) (by decide) j j0).1 d, (j4 5 (by decide) (by decide) j j0).1 d]
      exact w
    · obtain ⟨n, rfl⟩ : ∃ n, j = ρ 5 x + n := ⟨j - ρ 5 x, by omega⟩
      have P : ∀ e, 0 ≤ e → e ≤ 5 → π 6 (18 * ρ 0 3 + 6 * (ρ 5 x + n) + e) = ρ 6 (18 * y + 6 * n + e) := fun e e0 e5 => by
        have w := l6 (6 * (ρ 5 x + n) + e) (by omega) (by omega)
        rw [if_neg (by omega)] at w
        rw [show 18 * ρ 0 3 + 6 * (ρ 5 x + n) + e = 18 * ρ 0 3 + (6 * (ρ 5 x + n) + e) by omega, w]
        congr 1
        omega
      have P0 := P 0 (by decide) (by decide)
      rw [Int.add_zero, Int.add_zero] at P0
      have w := c6 n (by omega) (by omega)
      unfold zu_row at w ⊢
      rw [P0, P 1 (by decide) (by decide), P 2 (by decide) (by decide), P 3 (by decide) (by decide), P 4 (by decide) (by decide), P 5 (by decide) (by decide), (j4 2 (by decide) (by decide) n (by omega)).2 (by omega), (j4 3 (by decide) (by decide) n (by omega)).2 (by omega), (j4 4 (by decide) (by decide) n (by omega)).2 (by omega), (j4 5 (by decide) (by decide) n (by omega)).2 (by omega)]
      exact w
  · rw [if_pos t4, j1, zt_nmK_app (T' := σ (c + 2)) (L' := σ (c + 3)) (S' := σ (c + 4)) (V' := σ (c + 5)) (by omega) (by omega) (fun i i0 i1 => ⟨(j4 2 (by decide) (by decide) i i0).2 i1, (j4 3 (by decide) (by decide) i i0).2 i1, (j4 4 (by decide) (by decide) i i0).2 i1, (j4 5 (by decide) (by decide) i i0).2 i1⟩), zt_nmK_c (T' := σ (a + 2)) (L' := σ (a + 3)) (S' := σ (a + 4)) (V' := σ (a + 5)) (fun i i0 i1 => ⟨(j4 2 (by decide) (by decide) i i0).1 i1, (j4 3 (by decide) (by decide) i i0).1 i1, (j4 4 (by decide) (by decide) i i0).1 i1, (j4 5 (by decide) (by decide) i i0).1 i1⟩)]
    exact j2
  · rw [j1, zt_amK_app (T' := σ (c + 2)) (by omega) (by omega) (fun i i0 i1 => (j4 2 (by decide) (by decide) i i0).2 i1), zt_amK_c (T' := σ (a + 2)) (fun i i0 i1 => (j4 2 (by decide) (by decide) i i0).1 i1)]
    exact j3
/-- the ORDER of both -/
theorem zu_or_join {σ τ ρ π : zq_S} {sp a c x y q nm : Int} (hx : zx_T ρ) (b32 : σ 3 2 = ρ 0 2) (ha : zu_or σ ρ a x) (hc : zu_or σ ρ c y) (cr : zt_cr ρ x y) (rlt : zt_rb ρ x y < ρ 0 2) (hm : ∃ m, 0 ≤ m ∧ q = m * zx_p2 (zt_rb ρ x y)) (hq : 0 ≤ q ∧ q < zx_p2 (ρ 0 2)) (hn : zu_nt (τ sp 0) (π 1 (ρ 0 3))) (t4 : τ sp 4 = 0) (t5 : τ sp 5 = 0) (jc : zt_jc σ τ sp a c q) (lj : zt_lj ρ π x y q nm) (hw : π 0 0 = ρ 0 0) (hk : π 0 1 = ρ 0 1) (hb : π 0 2 = ρ 0 2) : zu_or τ π sp (ρ 0 3) := by
  have zb := zx_g2 hx
  obtain ⟨t1, t2, t3, t11, ja⟩ := jc
  have hi := cr.2.2.2.2.2
  have fw : ∀ f : Int, 0 ≤ f → f ≤ 4 → zt_fw (σ (a + 1)) (σ (c + 1)) f = zt_rs ρ x y f := fun f f0 f4 => by
    have w := zu_fw hx ha hc hi f.toNat (by omega)
    rw [show ((f.toNat : Nat) : Int) = f by omega] at w
    exact w
  have e4 : zt_fw (σ (a + 1)) (σ (c + 1)) 4 = zt_rb ρ x y := by rw [zu_rb]; exact fw 4 (by decide) (by decide)
  have le : ∀ j m : Int, 0 ≤ j → j ≤ m → zt_fw (σ (a + 1)) (σ (c + 1)) j ≤ zt_fw (σ (a + 1)) (σ (c + 1)) m := fun j m j0 jm => zt_fw_le _ _ j0 jm
  have F0 : zt_fw (σ (a + 1)) (σ (c + 1)) 0 = 0 := zt_fw_0 _ _
  have F1 := le 0 1 (by decide) (by decide)
  have F2 := le 1 2 (by decide) (by decide)
  have F3 := le 2 3 (by decide) (by decide)
  have F4 := le 3 4 (by decide) (by decide)
  have ms : ∀ f : Int, 0 ≤ f → zt_fw (σ (a + 1)) (σ (c + 1)) (f + 1) - zt_fw (σ (a + 1)) (σ (c + 1)) f = zt_mx (zt_bc (σ (a + 1) f)) (zt_bc (σ (c + 1) f)) := fun f f0 => by
    have w := zt_fw_s (σ (a + 1)) (σ (c + 1)) (k := f) f0
    omega
  have t3' : ∀ f, 0 ≤ f → f ≤ 3 → τ (sp + 1) f = (zx_p2 (zt_fw (σ (a + 1)) (σ (c + 1)) (f + 1) - zt_fw (σ (a + 1)) (σ (c + 1)) f) - 1) * zx_p2 (zt_fw (σ (a + 1)) (σ (c + 1)) 4 - zt_fw (σ (a + 1)) (σ (c + 1)) (f + 1)) := fun f f0 f3 => by
    rw [ms f f0]; exact t3 f f0 f3
  obtain ⟨-, -, -, -, -, -, l1, l2⟩ := id lj
  have L1 : ∀ i, 0 ≤ i → i < ρ 0 2 - zt_fw (σ (a + 1)) (σ (c + 1)) 4 → zt_L π (ρ 0 3) i = zt_bi (ρ 0 2) q i := fun i i0 i1 => l1 i i0 (by omega)
  have L2 : ∀ f, 0 ≤ f → f ≤ 3 → ∀ i, ρ 0 2 - zt_fw (σ (a + 1)) (σ (c + 1)) 4 + zt_fw (σ (a + 1)) (σ (c + 1)) f ≤ i → i < ρ 0 2 - zt_fw (σ (a + 1)) (σ (c + 1)) 4 + zt_fw (σ (a + 1)) (σ (c + 1)) (f + 1) → zt_L π (ρ 0 3) i = 2 + f := fun f f0 f3 i i0 i1 => by
    have w0 := fw f f0 (by omega)
    have w1 := fw (f + 1) (by omega) (by omega)
    exact l2 f f0 f3 i (by omega) (by omega)
  refine ⟨hn, zu_lk_join (F := zt_fw (σ (a + 1)) (σ (c + 1))) hb (by omega) F0 F1 F2 F3 F4 (by omega) (by rw [e4]; exact hm) hq L1 L2 (by rw [t1, b32]) t2 t3', zu_ac_join hx ha.2.2.1 hc.2.2.1 cr t4 t5 t11 ja lj, ?_⟩
  rw [hk, hw]
  have bm := fun f (f0 : 0 ≤ f) (f3 : f ≤ 3) => And.intro (zu_bc hx ha.2.1 f0 f3) (zu_bc hx hc.2.1 f0 f3)
  refine zu_fok_join (F := zt_fw (σ (a + 1)) (σ (c + 1))) F0 F1 F2 F3 F4 (by omega) t3' (fun f f0 f2 => ?_) ?_
  · rw [ms f f0]
    have mb := zt_mx_b (zt_bc (σ (a + 1) f)) (zt_bc (σ (c + 1) f))
    obtain ⟨w1, w2⟩ := bm f f0 (by omega)
    have fa := ha.2.2.2.1 f f0 f2
    have fc := hc.2.2.2.1 f f0 f2
    by_cases n1 : σ (a + 1) f = 0
    · have := w1.2.1.mp n1
      by_cases n2 : σ (c + 1) f = 0
      · have := w2.2.1.mp n2
        omega
      · have := fc n2
        omega
    · have := fa n1
      by_cases n2 : σ (c + 1) f = 0
      · have := w2.2.1.mp n2
        omega
      · have := fc n2
        omega
  · have w := ms 3 (by decide)
    rw [show (3 : Int) + 1 = 4 from rfl] at w
    rw [w]
    have mb := zt_mx_b (zt_bc (σ (a + 1) 3)) (zt_bc (σ (c + 1) 3))
    have wa := ha.2.2.2.2
    have wc := hc.2.2.2.2
    omega
/-- it shares no bits -/
theorem zu_dis_join {ρ π : zq_S} {x y q nm : Int} (hx : zx_T ρ) (hx' : zx_T π) (rlt : zt_rb ρ x y < ρ 0 2) (r0 : 0 ≤ zt_rb ρ x y) (hm : ∃ m, 0 ≤ m ∧ q = m * zx_p2 (zt_rb ρ x y)) (hq : 0 ≤ q ∧ q < zx_p2 (ρ 0 2)) (hf : zt_free (zt_hl ρ) q (zx_p2 (zt_rb ρ x y))) (lj : zt_lj ρ π x y q nm) (hr : ∀ o, 0 ≤ o → o < ρ 0 3 → zu_r1 ρ π o) : ∀ o, 0 ≤ o → o < ρ 0 3 → ¬ zt_co (zt_L π o) (zt_L π (ρ 0 3)) (ρ 0 2) := by
  intro o o0 o1 hc
  have zb := zx_g2 hx
  have b12 : ρ 0 2 ≤ 12 := by omega
  have h2 := zx_p2_le (m := ρ 0 2) (n := 12) b12
  have e12 := zx_p2_12
  obtain ⟨-, -, -, -, -, -, l1, -⟩ := lj
  have hs := zt_co_s2 hc
  have i1 : zt_is (zt_L π (ρ 0 3)) (ρ 0 2) (zt_cb (zt_L π (ρ 0 3)) (zt_L π o) (ρ 0 2)) := zt_cb_is b12 (by omega) (fun j _ _ => (zx_ga2 hx' _).1) hs
  have er : zt_cb (zt_L π (ρ 0 3)) (zt_L π o) (ρ 0 2) = zt_cb (zt_L π o) (zt_L π (ρ 0 3)) (ρ 0 2) := zt_mk_c (fun i _ _ => Bool.or_comm _ _)
  have i2 : zt_is (zt_L π o) (ρ 0 2) (zt_cb (zt_L π o) (zt_L π (ρ 0 3)) (ρ 0 2)) := zt_cb_is b12 (by omega) (fun j _ _ => (zx_ga2 hx' _).1) hc
  rw [← er] at i2
  have hr0 := zt_cb_r (zt_L π (ρ 0 3)) (zt_L π o) (ρ 0 2)
  have tp := zu_top (b := ρ 0 2) (x := zt_cb (zt_L π (ρ 0 3)) (zt_L π o) (ρ 0 2)) (y := q) (rb := zt_rb ρ x y) b12 hr0 hq r0 (by omega) (fun i i0 j1 => by
    have w := i1 i i0 (by omega)
    have v := l1 i i0 j1
    have v : zt_L π (ρ 0 3) i = zt_bi (ρ 0 2) q i := v
    have u := zt_bi_01 (b := ρ 0 2) (x := q) (i := i) ⟨hq.1, by omega⟩ i0 (by omega) b12
    omega)
  obtain ⟨m, m0, em⟩ := hm
  have hp := zx_p2_pos (zt_rb ρ x y)
  rw [em, Int.mul_ediv_cancel _ (by omega)] at tp
  have d1 := Int.mul_ediv_add_emod (zt_cb (zt_L π (ρ 0 3)) (zt_L π o) (ρ 0 2)) (zx_p2 (zt_rb ρ x y))
  have d2 := Int.emod_nonneg (zt_cb (zt_L π (ρ 0 3)) (zt_L π o) (ρ 0 2)) (show zx_p2 (zt_rb ρ x y) ≠ 0 by omega)
  have d3 := Int.emod_lt_of_pos (zt_cb (zt_L π (ρ 0 3)) (zt_L π o) (ρ 0 2)) (show 0 < zx_p2 (zt_rb ρ x y) by omega)
  rw [tp, Int.mul_comm, ← em] at d1
  exact hf _ (by omega) (by omega) o o0 o1 ((zt_is_c (zu_r1_L b12 (hr o o0 o1))).mp i2)
theorem zu_T3_join {σ τ ρ π : zq_S} {x y r s sp : Int} (hT : zc_T σ) (hx : zx_T ρ) (hx' : zx_T π) (h1 : zu_T1 σ ρ) (h2 : zu_T2 σ ρ) (h : zu_T3 σ ρ) (esp : σ 3 5 = sp) (ksp : zc_kd sp = 4) (hO : zd_Own sp σ τ) (c4 : τ 3 4 = σ 3 4) (c2 : ∀ i, τ 2 i = σ 2 i) (hc : zt_jn σ τ sp x y r) (hd : zt_rj ρ π x y s) (r18 : π 0 18 = ρ 0 18) (r10 : ∀ i, π 10 i = ρ 10 i) (hw : π 0 0 = ρ 0 0) (hk : π 0 1 = ρ 0 1) (hb : π 0 2 = ρ 0 2) (hr : ∀ o, 0 ≤ o → o < ρ 0 3 → zu_r1 ρ π o) : r = s ∧ zu_T2 τ π ∧ zu_T3 τ π := by
  obtain ⟨e0, e1, e2⟩ := h1
  have et : σ 2 = ρ 10 := funext h2.2
  have en := h2.1
  obtain ⟨⟨a1, a2⟩, a3, a4, a5, a6⟩ := id h
  have z3 := zx_g3 hx
  have kd : ∀ o, 0 ≤ o → o < ρ 0 3 → zc_kd (σ 10 o) = 4 := fun o o0 o1 => zc_ga10 hT zc_s10 o o0 (by omega)
  have cf : ∀ o, 0 ≤ o → o < ρ 0 3 → zu_cf σ τ (σ 10 o) := fun o o0 o1 => zu_cf_own hO (kd o o0 o1) ksp (by rw [← esp]; exact (a3 o o0 (by omega)).1)
  have T2 : τ 1 1 = π 0 14 → zu_T2 τ π := fun e => ⟨e, fun i => by rw [c2, r10]; exact h2.2 i⟩
  have sm : zt_same σ τ → π 0 3 = ρ 0 3 → zu_T3 τ π := fun k o3 => zu_T3_same hx h k (by omega) o3 hw hk hb cf hr
  unfold zt_jn at hc
  unfold zt_rj at hd
  rw [et, en, a1] at hc
  have dd := zu_dup (t := ρ 10) (n := ρ 0 14) h
  by_cases cr : 0 ≤ x ∧ x < ρ 0 3 ∧ 0 ≤ y ∧ y < ρ 0 3
  · obtain ⟨t11, k1, k2, k3⟩ := hc.2 cr
    obtain ⟨u14, m1, m2, m3⟩ := hd.2 cr
    have T2 := T2 (by omega)
    by_cases cD : zt_n0 (ρ 10) (ρ 0 14) = 0 ∨ ∃ i, 0 ≤ i ∧ i < ρ 0 3 ∧ ρ 1 i = zt_nb (ρ 10) (zt_z0 (ρ 10) (ρ 0 14)) (zt_n0 (ρ 10) (ρ 0 14))
    · obtain ⟨x1, x2⟩ := k1 (cD.imp id dd.mpr)
      obtain ⟨y1, y2⟩ := m1 cD
      exact ⟨by omega, T2, sm x2 y2⟩
    · have cD' := fun q => cD (Or.imp id dd.mp q)
      by_cases cN : zt_nx (ρ 10) (ρ 0 14) (zt_p0 (ρ 10) (ρ 0 14)) = -1
      · obtain ⟨n1, t4, t5, -, -, q, hroom, jn, jy⟩ := k3 cD' cN
        obtain ⟨q', rr, m4, m5⟩ := m3 cD cN
        have eq := zu_room hT hx h e2 (kd x cr.1 cr.2.1) (kd y cr.2.2.1 cr.2.2.2) (a4 x cr.1 cr.2.1) (a4 y cr.2.2.1 cr.2.2.2) hroom rr
        subst eq
        by_cases q0 : q < 0
        · obtain ⟨x1, x2⟩ := jn q0
          obtain ⟨y1, y2⟩ := m4 q0
          exact ⟨by omega, T2, sm x2 y2⟩
        · obtain ⟨jc, kp⟩ := jy (by omega)
          obtain ⟨m6, m7⟩ := m5 (by omega)
          rcases kp with ⟨k1, k2, k3⟩ | ⟨k1, k2, k3, k4, k5, k6⟩
          · obtain ⟨y1, y2⟩ := m6 (by omega)
            exact ⟨by omega, T2, sm k3 y2⟩
          · obtain ⟨y1, y2, lj⟩ := m7 (by omega)
            unfold zt_rr at rr
            obtain ⟨⟨c1, rlt⟩, hm, hq1, hfr, -⟩ := rr.1 (by omega)
            have n0 : zt_n0 (ρ 10) (ρ 0 14) ≠ 0 := fun e => cD (Or.inl e)
            have hn : zu_nt (τ sp 0) (π 1 (ρ 0 3)) := by
              rw [n1, lj.1]
              exact zu_nt_s n0
            have hor := zu_or_join hx e2 (a4 x cr.1 cr.2.1) (a4 y cr.2.2.1 cr.2.2.2) c1 rlt hm ⟨by omega, hq1⟩ hn t4 t5 jc lj hw hk hb
            have r0 : 0 ≤ zt_rb ρ x y := by
              have w := zu_fw hx (a4 x cr.1 cr.2.1) (a4 y cr.2.2.1 cr.2.2.2) c1.2.2.2.2.2 4 (by decide)
              have v := zt_fw_le (σ (σ 10 x + 1)) (σ (σ 10 y + 1)) (j := 0) (m := 4) (by decide) (by decide)
              rw [zt_fw_0] at v
              rw [zu_rb]
              have w : zt_fw (σ (σ 10 x + 1)) (σ (σ 10 y + 1)) 4 = zt_rs ρ x y 4 := w
              omega
            exact ⟨by omega, T2, zu_T3_new hT hx hx' h esp ksp hO hw hk hb hr (by omega) k1 k3 k4 k5 e2 k6 y2 hor (zu_dis_join hx hx' rlt r0 hm ⟨by omega, hq1⟩ hfr lj hr)⟩
      · obtain ⟨x1, x2⟩ := k2 cD' cN
        obtain ⟨y1, y2⟩ := m2 cD cN
        exact ⟨by omega, T2, sm x2 y2⟩
  · obtain ⟨x1, x2, x3⟩ := hc.1 cr
    obtain ⟨y1, y2, y3⟩ := hd.1 cr
    exact ⟨by omega, T2 (by omega), sm x3 y3⟩
