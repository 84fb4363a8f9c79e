/-! ===== FIELDS put into bits, side by side ===== -/
def zu_cl (m : Nat) : Nat → Nat
  | 0 => 0
  | k + 1 => zu_cl m k + (m.testBit k).toNat
theorem zu_and_tb {m k : Nat} (hm : m < 4096) (hk : k ≤ 11) : zq_and (m : Int) (zx_p2 (k : Int)) = 0 ↔ m.testBit k = false := by
  rw [zu_and_p2 ⟨by omega, by omega⟩ ⟨by omega, by omega⟩, Nat.testBit_eq_decide_div_mod_eq, show ((k : Int)).toNat = k by omega]
  have e : (((m / 2 ^ k % 2 : Nat)) : Int) = (m : Int) / 2 ^ k % 2 := by
    rw [Int.natCast_emod, Int.natCast_ediv, Int.natCast_pow]
    rfl
  rw [← e, decide_eq_false_iff_not]
  omega
theorem zu_wf_tb {m b r : Nat} (hm : m < 4096) (hb : b < 4096) (hr : r < 4096) : ∀ k : Nat, k ≤ 12 → ∃ s q : Nat, zu_wfF (m : Int) (b : Int) (r : Int) k = ((s : Int), (q : Int)) ∧ s < 4096 ∧ q = r >>> zu_cl m k ∧ q < 4096 ∧ ∀ p, s.testBit p = (b.testBit p || (decide (p < k) && (m.testBit p && r.testBit (zu_cl m p)))) := by
  intro k
  induction k with
  | zero => intro _; exact ⟨b, r, rfl, hb, rfl, hr, fun p => by simp⟩
  | succ k ih =>
    intro hk
    obtain ⟨s, q, e, hs, hq, hq2, ht⟩ := ih (by omega)
    have ha := zu_and_tb (m := m) (k := k) hm (by omega)
    have hp : zx_p2 (k : Int) = ((2 ^ k : Nat) : Int) := by
      unfold zx_p2
      rw [Int.natCast_pow, show ((k : Int)).toNat = k by omega]
      rfl
    have hpl : 2 ^ k < 4096 := Nat.lt_of_le_of_lt (Nat.pow_le_pow_right (by decide) (show k ≤ 11 by omega)) (by decide)
    have st : zu_wfF (m : Int) (b : Int) (r : Int) (k + 1) = if zq_and (m : Int) (zx_p2 (k : Int)) ≠ 0 then (zq_or (zu_wfF (m : Int) (b : Int) (r : Int) k).1 (if zq_and (zu_wfF (m : Int) (b : Int) (r : Int) k).2 1 = 0 then 0 else zx_p2 (k : Int)), zq_shr (zu_wfF (m : Int) (b : Int) (r : Int) k).2 1) else zu_wfF (m : Int) (b : Int) (r : Int) k := rfl
    rw [e] at st
    cases hb1 : m.testBit k with
    | false =>
      rw [if_neg (fun w => w (ha.mpr hb1))] at st
      refine ⟨s, q, st, hs, ?_, hq2, fun p => ?_⟩
      · show q = r >>> (zu_cl m k + (m.testBit k).toNat)
        rw [hb1]
        exact hq
      · rw [ht p]
        by_cases c : p = k
        · rw [c, hb1]; simp
        · have e1 : decide (p < k + 1) = decide (p < k) := decide_eq_decide.mpr (by omega)
          rw [e1]
    | true =>
      rw [if_pos (fun w => by rw [ha.mp w] at hb1; cases hb1)] at st
      have q1 : zq_and (q : Int) 1 = (q : Int) % 2 := (zq_and_mask _ 1 1 2 (by decide) (by decide) (by decide)).1
      have q0 : q.testBit 0 = r.testBit (zu_cl m k) := by rw [hq, Nat.testBit_shiftRight]; rfl
      have q00 : q.testBit 0 = decide (q % 2 = 1) := Nat.testBit_zero q
      have qs : zq_shr (q : Int) 1 = ((q / 2 : Nat) : Int) := by
        have w := zq_shr_c (x := (q : Int)) 1 2 (by decide) (by decide) (by omega)
        have w : zq_shr (q : Int) 1 = (q : Int) / 2 := w
        rw [w]
        rfl
      have hq' : q / 2 = r >>> zu_cl m (k + 1) := by
        show q / 2 = r >>> (zu_cl m k + (m.testBit k).toNat)
        rw [hb1, show (true).toNat = 1 from rfl, Nat.shiftRight_add, ← hq]
        rfl
      by_cases c : q % 2 = 1
      · rw [if_neg (by show ¬ zq_and (q : Int) 1 = 0; omega)] at st
        have so : zq_or (s : Int) (zx_p2 (k : Int)) = ((s ||| 2 ^ k : Nat) : Int) := by rw [hp]; exact zt_orN hs hpl
        have sl : s ||| 2 ^ k < 2 ^ 12 := Nat.or_lt_two_pow hs hpl
        refine ⟨s ||| 2 ^ k, q / 2, by rw [st]; exact Prod.ext so qs, sl, hq', by omega, fun p => ?_⟩
        rw [Nat.testBit_or, ht p, Nat.testBit_two_pow]
        have rb : r.testBit (zu_cl m k) = true := by rw [← q0, q00]; exact decide_eq_true c
        by_cases d : p = k
        · rw [d, hb1, rb]; simp
        · have e1 : decide (p < k + 1) = decide (p < k) := decide_eq_decide.mpr (by omega)
          rw [e1, decide_eq_false (show ¬ k = p by omega), Bool.or_false]
      · rw [if_pos (by show zq_and (q : Int) 1 = 0; omega)] at st
        have so : zq_or (s : Int) 0 = (s : Int) := by
          have w := zt_orN (m := s) (n := 0) hs (by decide)
          rw [Nat.or_zero] at w
          exact w
        refine ⟨s, q / 2, by rw [st]; exact Prod.ext so qs, hs, hq', by omega, fun p => ?_⟩
        rw [ht p]
        have rb : r.testBit (zu_cl m k) = false := by rw [← q0, q00]; exact decide_eq_false c
        by_cases d : p = k
        · rw [d, hb1, rb]; simp
        · have e1 : decide (p < k + 1) = decide (p < k) := decide_eq_decide.mpr (by omega)
          rw [e1]
def zu_ob (H : Int → Bool) (M V : Int → Int) (p : Nat) : Nat → Bool
  | 0 => false
  | k + 1 => zu_ob H M V p k || (H k && (decide (p < 12) && ((M k).toNat.testBit p && (V k).toNat.testBit (zu_cl (M k).toNat p))))
theorem zu_bt_tb {H : Int → Bool} {M V : Int → Int} {b : Int} (hb : 0 ≤ b ∧ b < 4096) (hM : ∀ f, 0 ≤ f → f ≤ 3 → 0 ≤ M f ∧ M f < 4096) (hV : ∀ f, 0 ≤ f → f ≤ 3 → H f = true → 0 ≤ V f ∧ V f < 4096) : ∀ k : Nat, k ≤ 4 → ∃ s : Nat, zu_btF H M V b k = (s : Int) ∧ s < 4096 ∧ ∀ p, s.testBit p = (b.toNat.testBit p || zu_ob H M V p k) := by
  intro k
  induction k with
  | zero => intro _; exact ⟨b.toNat, by show b = _; omega, by omega, fun p => by show _ = (b.toNat.testBit p || false); rw [Bool.or_false]⟩
  | succ k ih =>
    intro hk
    obtain ⟨s, e, hs, ht⟩ := ih (by omega)
    have st : zu_btF H M V b (k + 1) = if H k = true then (zu_wf (M k) (zu_btF H M V b k) (V k) 12).1 else zu_btF H M V b k := rfl
    by_cases c : H k = true
    · have m1 := hM k (by omega) (by omega)
      have v1 := hV k (by omega) (by omega) c
      obtain ⟨s', q, e', hs', -, -, ht'⟩ := zu_wf_tb (m := (M k).toNat) (b := s) (r := (V k).toNat) (by omega) hs (by omega) 12 (by decide)
      rw [show (((M k).toNat : Nat) : Int) = M k by omega, show (((V k).toNat : Nat) : Int) = V k by omega] at e'
      rw [if_pos c, e] at st
      refine ⟨s', by rw [st]; exact congrArg Prod.fst e', hs', fun p => ?_⟩
      rw [ht' p, ht p]
      show _ = (b.toNat.testBit p || (zu_ob H M V p k || (H k && (decide (p < 12) && ((M k).toNat.testBit p && (V k).toNat.testBit (zu_cl (M k).toNat p))))))
      rw [c, Bool.true_and, Bool.or_assoc]
    · rw [if_neg c, e] at st
      refine ⟨s, st, hs, fun p => ?_⟩
      rw [ht p]
      show _ = (b.toNat.testBit p || (zu_ob H M V p k || (H k && (decide (p < 12) && ((M k).toNat.testBit p && (V k).toNat.testBit (zu_cl (M k).toNat p))))))
      rw [Bool.eq_false_iff.mpr c, Bool.false_and, Bool.or_false]
theorem zu_bi_tb {b i : Int} {x : Nat} (hx : x < 4096) (i0 : 0 ≤ i) (i1 : i < b) (b12 : b ≤ 12) : zt_bi b (x : Int) i = 1 ↔ x.testBit (b - 1 - i).toNat = true := by
  rw [zt_bi_v ⟨by omega, by omega⟩ i0 i1 b12, Nat.testBit_eq_decide_div_mod_eq, decide_eq_true_eq]
  have e : (((x / 2 ^ (b - 1 - i).toNat % 2 : Nat)) : Int) = (x : Int) / 2 ^ (b - 1 - i).toNat % 2 := by
    rw [Int.natCast_emod, Int.natCast_ediv, Int.natCast_pow]
    rfl
  rw [← e]
  omega
theorem zu_mk_tb {P : Int → Bool} {b i : Int} (b0 : 0 ≤ b) (b12 : b ≤ 12) (i0 : 0 ≤ i) (i1 : i < b) : (zt_mk P b).toNat.testBit (b - 1 - i).toNat = P i := by
  have r := zt_mk_r P b
  have h2 := zx_p2_le (m := b) (n := 12) b12
  have e12 := zx_p2_12
  have w := zu_bi_tb (b := b) (i := i) (x := (zt_mk P b).toNat) (by omega) i0 i1 b12
  rw [show (((zt_mk P b).toNat : Nat) : Int) = zt_mk P b by omega, zt_bi_mk b0 b12 i0 i1] at w
  cases h : P i with
  | true => exact w.mp h
  | false =>
    refine Bool.eq_false_iff.mpr (fun q => ?_)
    rw [w.mpr q] at h
    cases h
theorem zu_cl_cnt {ρ : zq_S} {o f b : Int} (b0 : 0 ≤ b) (b12 : b ≤ 12) : ∀ p : Nat, (p : Int) ≤ b → ((zu_cl (zt_mk (fun i => decide (zt_L ρ o i = 2 + f)) b).toNat p : Nat) : Int) = zx_cnt ρ o f b - zx_cnt ρ o f (b - p) := by
  intro p
  induction p with
  | zero => intro _; show (0 : Int) = _; rw [show b - ((0 : Nat) : Int) = b by omega]; omega
  | succ p ih =>
    intro hp
    have ih := ih (by omega)
    have tb := zu_mk_tb (P := fun i => decide (zt_L ρ o i = 2 + f)) (b := b) (i := b - 1 - p) b0 b12 (by omega) (by omega)
    rw [show (b - 1 - (b - 1 - (p : Int))).toNat = p by omega] at tb
    have hs := zx_cnt_s ρ o f (b - 1 - p) (by omega)
    rw [show b - 1 - (p : Int) + 1 = b - p by omega] at hs
    show ((zu_cl _ p + (Nat.testBit _ p).toNat : Nat) : Int) = _
    rw [tb, show b - ((p + 1 : Nat) : Int) = b - 1 - p by omega]
    by_cases c : zt_L ρ o (b - 1 - p) = 2 + f
    · rw [decide_eq_true c]
      have := hs.1 c
      show ((zu_cl _ p + 1 : Nat) : Int) = _
      omega
    · rw [decide_eq_false c]
      have := hs.2 c
      show ((zu_cl _ p + 0 : Nat) : Int) = _
      omega
theorem zu_ob4 (H : Int → Bool) (M V : Int → Int) (p : Nat) : zu_ob H M V p 4 = true ↔ ∃ f : Int, 0 ≤ f ∧ f ≤ 3 ∧ H f = true ∧ p < 12 ∧ (M f).toNat.testBit p = true ∧ (V f).toNat.testBit (zu_cl (M f).toNat p) = true := by
  have key : ∀ k : Nat, zu_ob H M V p k = true ↔ ∃ f : Int, 0 ≤ f ∧ f < k ∧ H f = true ∧ p < 12 ∧ (M f).toNat.testBit p = true ∧ (V f).toNat.testBit (zu_cl (M f).toNat p) = true := by
    intro k
    induction k with
    | zero => exact ⟨fun h => absurd (show false = true from h) (by decide), fun ⟨f, f0, f1, _⟩ => absurd f1 (by omega)⟩
    | succ k ih =>
      show (zu_ob H M V p k || (H k && (decide (p < 12) && ((M k).toNat.testBit p && (V k).toNat.testBit (zu_cl (M k).toNat p))))) = true ↔ _
      rw [Bool.or_eq_true, ih]
      simp only [Bool.and_eq_true, decide_eq_true_eq]
      constructor
      · intro h
        rcases h with ⟨f, f0, f1, h⟩ | h
        · exact ⟨f, f0, by omega, h⟩
        · exact ⟨k, by omega, by omega, h⟩
      · intro ⟨f, f0, f1, h⟩
        by_cases c : f = k
        · rw [c] at h; exact Or.inr h
        · exact Or.inl ⟨f, f0, by omega, h⟩
  rw [key 4]
  exact ⟨fun ⟨f, f0, f1, h⟩ => ⟨f, f0, by omega, h⟩, fun ⟨f, f0, f1, h⟩ => ⟨f, f0, by omega, h⟩⟩
theorem zu_sh1 {v c : Int} (hv : 0 ≤ v ∧ v < 4096) (hc : 0 ≤ c ∧ c ≤ 30) : zq_and (zq_shr v c) 1 = 1 ↔ v.toNat.testBit c.toNat = true := by
  rw [zq_shr_v ⟨hv.1, by omega⟩ hc, (zq_and_mask _ 1 1 2 (by decide) (by decide) (by decide)).1, Nat.testBit_eq_decide_div_mod_eq, decide_eq_true_eq]
  have e : (((v.toNat / 2 ^ c.toNat % 2 : Nat)) : Int) = v / 2 ^ c.toNat % 2 := by
    rw [Int.natCast_emod, Int.natCast_ediv, Int.natCast_pow, show ((v.toNat : Nat) : Int) = v by omega]
    rfl
  rw [← e]
  omega
/-- bits with numbers put in: the same -/
theorem zu_bits {σ ρ : zq_S} {a o : Int} {V W : Int → Int} (hx : zx_T ρ) (h : zu_lk σ ρ a o) (hV : ∀ f, 0 ≤ f → f ≤ 3 → zu_rH ρ o f = true → 0 ≤ V f ∧ V f < 4096) (hW : ∀ f, 0 ≤ f → f ≤ 3 → zu_rH ρ o f = true → W f = V f) : zu_bt (zu_cH σ a) (σ (a + 1)) V (σ a 2) 4 = zu_rbt ρ o W (ρ 0 2) := by
  have zb := zx_g2 hx
  have h2 := zx_p2_le (m := ρ 0 2) (n := 12) (by omega)
  have e12 := zx_p2_12
  have hH : ∀ f, 0 ≤ f → f ≤ 3 → zu_cH σ a f = zu_rH ρ o f := fun f f0 f3 => by
    have b := zu_bc hx h f0 f3
    unfold zu_cH zu_rH
    refine decide_eq_decide.mpr ⟨fun q => ?_, fun q e => ?_⟩
    · have : ¬ zx_cnt ρ o f (ρ 0 2) = 0 := fun e => q (b.2.1.mpr e)
      omega
    · have := b.2.1.mp e
      omega
  have hM : ∀ f, 0 ≤ f → f ≤ 3 → 0 ≤ σ (a + 1) f ∧ σ (a + 1) f < zx_p2 (ρ 0 2) := fun f f0 f3 => by rw [h.2.2 f f0 f3]; exact zt_mk_r _ _
  have hB : 0 ≤ σ a 2 ∧ σ a 2 < zx_p2 (ρ 0 2) := by rw [h.2.1]; exact zt_mk_r _ _
  obtain ⟨s, e, hs, ht⟩ := zu_bt_tb (H := zu_cH σ a) (M := σ (a + 1)) (V := V) (b := σ a 2) (by omega) (fun f f0 f3 => by have := hM f f0 f3; omega) (fun f f0 f3 w => hV f f0 f3 (by rw [← hH f f0 f3]; exact w)) 4 (by decide)
  have e : zu_bt (zu_cH σ a) (σ (a + 1)) V (σ a 2) 4 = (s : Int) := e
  rw [e]
  have tp2 : ∀ n : Nat, (((2 ^ n : Nat)) : Int) = 2 ^ n := fun n => by rw [Int.natCast_pow]; rfl
  have big : ∀ x : Int, 0 ≤ x → x < zx_p2 (ρ 0 2) → ∀ p : Nat, (ρ 0 2).toNat ≤ p → x.toNat.testBit p = false := fun x x0 x1 p hp => by
    refine Nat.testBit_lt_two_pow ?_
    have w : (((2 ^ (ρ 0 2).toNat : Nat)) : Int) = zx_p2 (ρ 0 2) := tp2 _
    have w2 : 2 ^ (ρ 0 2).toNat ≤ 2 ^ p := Nat.pow_le_pow_right (by decide) hp
    omega
  have sl : s < 2 ^ (ρ 0 2).toNat := by
    refine Nat.lt_pow_two_of_testBit s (fun p hp => ?_)
    rw [ht p, big _ hB.1 hB.2 p hp, Bool.false_or]
    refine Bool.eq_false_iff.mpr (fun q => ?_)
    obtain ⟨f, f0, f3, -, -, w, -⟩ := (zu_ob4 _ _ _ _).mp q
    have m1 := hM f f0 f3
    rw [big _ m1.1 m1.2 p hp] at w
    cases w
  have sl2 : (s : Int) < zx_p2 (ρ 0 2) := by
    have w : (((2 ^ (ρ 0 2).toNat : Nat)) : Int) = zx_p2 (ρ 0 2) := tp2 _
    omega
  rw [zt_mk_bi (b := ρ 0 2) (x := (s : Int)) (by omega) (by omega) ⟨by omega, sl2⟩]
  unfold zu_rbt
  refine zt_mk_c (fun i i0 i1 => ?_)
  show decide (zt_bi (ρ 0 2) (s : Int) i = 1) = decide (zu_rbi ρ o W i = 1)
  refine decide_eq_decide.mpr ?_
  rw [zu_bi_tb hs i0 i1 (by omega), ht, Bool.or_eq_true, zu_ob4]
  have tB : (σ a 2).toNat.testBit (ρ 0 2 - 1 - i).toNat = decide (zt_L ρ o i = 1) := by rw [h.2.1]; exact zu_mk_tb (by omega) (by omega) i0 i1
  have tM : ∀ f, 0 ≤ f → f ≤ 3 → (σ (a + 1) f).toNat.testBit (ρ 0 2 - 1 - i).toNat = decide (zt_L ρ o i = 2 + f) := fun f f0 f3 => by rw [h.2.2 f f0 f3]; exact zu_mk_tb (by omega) (by omega) i0 i1
  have cl : ∀ f, 0 ≤ f → f ≤ 3 → ((zu_cl (σ (a + 1) f).toNat (ρ 0 2 - 1 - i).toNat : Nat) : Int) = zx_cnt ρ o f (ρ 0 2) - zx_cnt ρ o f (i + 1) := fun f f0 f3 => by
    rw [h.2.2 f f0 f3, zu_cl_cnt (by omega) (by omega) _ (by omega), show ρ 0 2 - (((ρ 0 2 - 1 - i).toNat : Nat) : Int) = i + 1 by omega]
  have hl := zx_ga2 hx (12 * o + i)
  have hl : 0 ≤ zt_L ρ o i ∧ zt_L ρ o i ≤ 5 := hl
  have hbit : ∀ f, 0 ≤ f → f ≤ 3 → zt_L ρ o i = 2 + f → (((decide (zt_L ρ o i = 1) = true ∨ ∃ g : Int, 0 ≤ g ∧ g ≤ 3 ∧ zu_cH σ a g = true ∧ (ρ 0 2 - 1 - i).toNat < 12 ∧ (σ (a + 1) g).toNat.testBit (ρ 0 2 - 1 - i).toNat = true ∧ (V g).toNat.testBit (zu_cl (σ (a + 1) g).toNat (ρ 0 2 - 1 - i).toNat) = true)) ↔ zq_and (zq_shr (W f) (zx_cnt ρ o f (ρ 0 2) - zx_cnt ρ o f (i + 1))) 1 = 1) := fun f f0 f3 hL => by
    have cp : 0 < zx_cnt ρ o f (ρ 0 2) := by
      have w := zt_cnt_pos ρ o f (ρ 0 2).toNat
      rw [show (((ρ 0 2).toNat : Nat) : Int) = ρ 0 2 by omega] at w
      exact w.mpr ⟨i, i0, i1, hL⟩
    have hHf : zu_rH ρ o f = true := decide_eq_true cp
    have v1 := hV f f0 f3 hHf
    have cb := zx_cnt_b ρ o f (i + 1) (by omega)
    have cb2 := zx_cnt_b ρ o f (ρ 0 2) (by omega)
    have c0 := cl f f0 f3
    rw [hW f f0 f3 hHf, zu_sh1 v1 (by omega), ← c0, show (((zu_cl (σ (a + 1) f).toNat (ρ 0 2 - 1 - i).toNat : Nat) : Int)).toNat = zu_cl (σ (a + 1) f).toNat (ρ 0 2 - 1 - i).toNat by omega]
    constructor
    · intro q
      rcases q with q | ⟨g, g0, g3, g4, g5, g6, g7⟩
      · have := of_decide_eq_true q; omega
      · rw [tM g g0 g3] at g6
        have := of_decide_eq_true g6
        have e : g = f := by omega
        rw [e] at g7
        exact g7
    · intro q
      refine Or.inr ⟨f, f0, f3, ?_, by omega, ?_, q⟩
      · rw [hH f f0 f3]; exact hHf
      · rw [tM f f0 f3]; exact decide_eq_true hL
  rw [tB]
  by_cases c2 : zt_L ρ o i = 2
  · rw [zu_rbi_2 c2 rfl]; exact hbit 0 (by decide) (by decide) (by omega)
  by_cases c3 : zt_L ρ o i = 3
  · rw [zu_rbi_3 c3 rfl]; exact hbit 1 (by decide) (by decide) (by omega)
  by_cases c4 : zt_L ρ o i = 4
  · rw [zu_rbi_4 c4 rfl]; exact hbit 2 (by decide) (by decide) (by omega)
  by_cases c5 : zt_L ρ o i = 5
  · rw [zu_rbi_5 c5 rfl]; exact hbit 3 (by decide) (by decide) (by omega)
  rw [zu_rbi_b (by omega)]
  constructor
  · intro q
    rcases q with q | ⟨g, g0, g3, g4, g5, g6, g7⟩
    · exact of_decide_eq_true q
    · rw [tM g g0 g3] at g6
      have := of_decide_eq_true g6
      omega
  · intro q
    exact Or.inl (decide_eq_true q)
