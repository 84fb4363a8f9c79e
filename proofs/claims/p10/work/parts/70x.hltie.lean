/-! ===== HOLES counted, side by side ===== -/
theorem zu_ctF_b (P : Int → Bool) : ∀ k : Nat, 0 ≤ zu_ctF P k ∧ zu_ctF P k ≤ k := by
  intro k
  induction k with
  | zero => exact ⟨Int.le_refl 0, Int.le_refl 0⟩
  | succ k ih =>
    show 0 ≤ zu_ctF P k + (if P k = true then 1 else 0) ∧ zu_ctF P k + (if P k = true then 1 else 0) ≤ ((k + 1 : Nat) : Int)
    split <;> omega
theorem zu_pop_ct (P : Int → Bool) : ∀ k : Nat, k ≤ 12 → zt_pop (zt_mkF P k) = zu_ctF P k := by
  intro k
  induction k with
  | zero => intro _; show zt_pop 0 = 0; decide
  | succ k ih =>
    intro hk
    have h1 := ih (by omega)
    have hr := zt_mk_b P k
    have hp : (2 : Int) ^ k ≤ 2 ^ 11 := zq_pow2 (by omega)
    have h11 : (2 : Int) ^ 11 = 2048 := by decide
    show zt_pop (2 * zt_mkF P k + (if P k = true then 1 else 0)) = zu_ctF P k + (if P k = true then 1 else 0)
    by_cases hc : P k = true
    · rw [if_pos hc, zt_pop_s (by omega) (Or.inr rfl), h1]
    · rw [if_neg hc, zt_pop_s (by omega) (Or.inl rfl), h1]
theorem zu_bc_ct {P : Int → Bool} {b : Int} (b0 : 0 ≤ b) (b12 : b ≤ 12) : zt_bc (zt_mk P b) = zu_ct P b := by
  have hr := zt_mk_r P b
  have h12 := zx_p2_le (m := b) (n := 12) b12
  have e12 := zx_p2_12
  rw [zt_bc_pop (by omega)]
  exact zu_pop_ct P b.toNat (by omega)
noncomputable def zu_ib (L : Int → Int) (b : Int) : Int → Bool := fun y => @decide (zt_is L b y) (Classical.propDecidable _)
theorem zu_ib_i {L : Int → Int} {b y : Int} : zu_ib L b y = true ↔ zt_is L b y := by
  unfold zu_ib
  exact ⟨fun q => @of_decide_eq_true _ (Classical.propDecidable _) q, fun q => @decide_eq_true _ (Classical.propDecidable _) q⟩
theorem zu_bi_0 {b : Nat} {y : Int} (hb : b ≤ 11) (hy : 0 ≤ y ∧ y < 2 * 2 ^ b) : zt_bi ((b : Int) + 1) y 0 = if y < 2 ^ b then 0 else 1 := by
  have hp : (2 : Int) ^ b ≤ 2 ^ 11 := zq_pow2 hb
  have h11 : (2 : Int) ^ 11 = 2048 := by decide
  have hpos : (0 : Int) < 2 ^ b := Int.pow_pos (by decide)
  rw [zt_bi_v ⟨hy.1, by omega⟩ (by decide) (by omega) (by omega), show ((b : Int) + 1 - 1 - 0).toNat = b by omega]
  by_cases c : y < 2 ^ b
  · rw [if_pos c, Int.ediv_eq_zero_of_lt hy.1 c]; rfl
  · rw [if_neg c]
    have e : y / 2 ^ b = 1 := by
      have h1 : 1 ≤ y / 2 ^ b := (Int.le_ediv_iff_mul_le hpos).mpr (by omega)
      have h2 : y / 2 ^ b < 2 := Int.ediv_lt_of_lt_mul hpos (by omega)
      omega
    rw [e]
    rfl
theorem zu_bi_s {b : Nat} {y i : Int} (hb : b ≤ 11) (hy : 0 ≤ y ∧ y < 2 ^ b) (i0 : 0 ≤ i) (i1 : i < b) : zt_bi ((b : Int) + 1) y (1 + i) = zt_bi b y i ∧ zt_bi ((b : Int) + 1) (2 ^ b + y) (1 + i) = zt_bi b y i := by
  have hp : (2 : Int) ^ b ≤ 2 ^ 11 := zq_pow2 hb
  have h11 : (2 : Int) ^ 11 = 2048 := by decide
  have hpos : (0 : Int) < 2 ^ b := Int.pow_pos (by decide)
  rw [zt_bi_v ⟨hy.1, by omega⟩ (by omega) (by omega) (by omega), zt_bi_v (b := (b : Int)) ⟨hy.1, by omega⟩ i0 i1 (by omega), zt_bi_v (x := 2 ^ b + y) ⟨by omega, by omega⟩ (by omega) (by omega) (by omega), show ((b : Int) + 1 - 1 - (1 + i)).toNat = ((b : Int) - 1 - i).toNat by omega]
  refine ⟨rfl, ?_⟩
  have e1 : (2 : Int) ^ b = 2 ^ ((b : Int) - 1 - i).toNat * (2 * 2 ^ i.toNat) := by
    have q : b = ((b : Int) - 1 - i).toNat + (i.toNat + 1) := by omega
    have w : (2 : Int) ^ b = 2 ^ (((b : Int) - 1 - i).toNat + (i.toNat + 1)) := congrArg (fun n => (2 : Int) ^ n) q
    rw [w, Int.pow_add, Int.pow_succ, Int.mul_comm (2 ^ i.toNat) 2]
  have hq : (2 : Int) ^ ((b : Int) - 1 - i).toNat ≠ 0 := by
    have : (0 : Int) < 2 ^ ((b : Int) - 1 - i).toNat := Int.pow_pos (by decide)
    omega
  rw [e1, Int.add_comm, Int.add_mul_ediv_left _ _ hq]
  omega
theorem zu_is_st {L : Int → Int} {b : Nat} {y : Int} (hb : b ≤ 11) (hy : 0 ≤ y ∧ y < 2 ^ b) : (zt_is L ((b : Int) + 1) y ↔ (1 < L 0 ∨ L 0 = 0) ∧ zt_is (fun i => L (1 + i)) b y) ∧ (zt_is L ((b : Int) + 1) (2 ^ b + y) ↔ (1 < L 0 ∨ L 0 = 1) ∧ zt_is (fun i => L (1 + i)) b y) := by
  have z1 := zu_bi_0 (y := y) hb (by omega)
  rw [if_pos hy.2] at z1
  have z2 := zu_bi_0 (y := 2 ^ b + y) hb (by omega)
  rw [if_neg (by omega)] at z2
  constructor
  · constructor
    · intro h
      refine ⟨by have := h 0 (by decide) (by omega); rw [z1] at this; exact this, fun i i0 i1 => ?_⟩
      have q := h (1 + i) (by omega) (by omega)
      rw [(zu_bi_s hb hy i0 i1).1] at q
      exact q
    · intro ⟨h0, h⟩ i i0 i1
      by_cases c : i = 0
      · rw [c, z1]; exact h0
      · obtain ⟨j, rfl⟩ : ∃ j, i = 1 + j := ⟨i - 1, by omega⟩
        rw [(zu_bi_s hb hy (by omega) (by omega)).1]
        exact h j (by omega) (by omega)
  · constructor
    · intro h
      refine ⟨by have := h 0 (by decide) (by omega); rw [z2] at this; exact this, fun i i0 i1 => ?_⟩
      have q := h (1 + i) (by omega) (by omega)
      rw [(zu_bi_s hb hy i0 i1).2] at q
      exact q
    · intro ⟨h0, h⟩ i i0 i1
      by_cases c : i = 0
      · rw [c, z2]; exact h0
      · obtain ⟨j, rfl⟩ : ∃ j, i = 1 + j := ⟨i - 1, by omega⟩
        rw [(zu_bi_s hb hy (by omega) (by omega)).2]
        exact h j (by omega) (by omega)
theorem zu_is_ct : ∀ (b : Nat), b ≤ 12 → ∀ L : Int → Int, (∀ i : Int, 0 ≤ i → i < b → 0 ≤ L i) → zu_ctF (zu_ib L b) (2 ^ b) = zx_p2 (zu_ctF (fun i => decide (1 < L i)) b) := by
  intro b
  induction b with
  | zero =>
    intro _ L _
    have e : zu_ib L ((0 : Nat) : Int) ((0 : Nat) : Int) = true := zu_ib_i.mpr (fun i i0 i1 => absurd i1 (by omega))
    show 0 + (if zu_ib L ((0 : Nat) : Int) ((0 : Nat) : Int) = true then 1 else 0) = _
    rw [if_pos e]
    rfl
  | succ b ih =>
    intro hb L hL
    have ihL := ih (by omega) (fun i => L (1 + i)) (fun i i0 i1 => hL (1 + i) (by omega) (by omega))
    have e2 : 2 ^ (b + 1) = 2 ^ b + 2 ^ b := by rw [Nat.pow_succ]; omega
    have cp : (((2 ^ b : Nat)) : Int) = 2 ^ b := by rw [Int.natCast_pow]; rfl
    have fr : zu_ctF (fun i => decide (1 < L i)) (b + 1) = (if 1 < L 0 then 1 else 0) + zu_ctF (fun i => decide (1 < L (1 + i))) b := by
      rw [show b + 1 = 1 + b by omega, zu_ctF_add]
      congr 1
      show 0 + (if decide (1 < L ((0 : Nat) : Int)) = true then (1 : Int) else 0) = _
      rw [show (((0 : Nat)) : Int) = 0 from rfl, Int.zero_add]
      by_cases c : 1 < L 0
      · rw [if_pos (decide_eq_true c), if_pos c]
      · rw [if_neg (fun q => c (of_decide_eq_true q)), if_neg c]
    have h1 : (1 < L 0 ∨ L 0 = 0) → zu_ctF (zu_ib L ((b + 1 : Nat) : Int)) (2 ^ b) = zu_ctF (zu_ib (fun i => L (1 + i)) b) (2 ^ b) := fun c => zu_ctF_c _ (fun y y0 y1 => by
      have q := (zu_is_st (L := L) (b := b) (y := y) (by omega) ⟨y0, by omega⟩).1
      refine Bool.eq_iff_iff.mpr ?_
      rw [zu_ib_i, zu_ib_i, show ((b + 1 : Nat) : Int) = (b : Int) + 1 by omega, q]
      exact ⟨fun w => w.2, fun w => ⟨c, w⟩⟩)
    have h2 : ¬ (1 < L 0 ∨ L 0 = 0) → zu_ctF (zu_ib L ((b + 1 : Nat) : Int)) (2 ^ b) = 0 := fun c => zu_ctF_no _ (fun y y0 y1 w => by
      have q := (zu_is_st (L := L) (b := b) (y := y) (by omega) ⟨y0, by omega⟩).1
      rw [zu_ib_i, show ((b + 1 : Nat) : Int) = (b : Int) + 1 by omega, q] at w
      exact c w.1)
    have h3 : (1 < L 0 ∨ L 0 = 1) → zu_ctF (fun i => zu_ib L ((b + 1 : Nat) : Int) (((2 ^ b : Nat) : Int) + i)) (2 ^ b) = zu_ctF (zu_ib (fun i => L (1 + i)) b) (2 ^ b) := fun c => zu_ctF_c _ (fun y y0 y1 => by
      have q := (zu_is_st (L := L) (b := b) (y := y) (by omega) ⟨y0, by omega⟩).2
      refine Bool.eq_iff_iff.mpr ?_
      show zu_ib L ((b + 1 : Nat) : Int) (((2 ^ b : Nat) : Int) + y) = true ↔ _
      rw [zu_ib_i, zu_ib_i, cp, show ((b + 1 : Nat) : Int) = (b : Int) + 1 by omega, q]
      exact ⟨fun w => w.2, fun w => ⟨c, w⟩⟩)
    have h4 : ¬ (1 < L 0 ∨ L 0 = 1) → zu_ctF (fun i => zu_ib L ((b + 1 : Nat) : Int) (((2 ^ b : Nat) : Int) + i)) (2 ^ b) = 0 := fun c => zu_ctF_no _ (fun y y0 y1 w => by
      have q := (zu_is_st (L := L) (b := b) (y := y) (by omega) ⟨y0, by omega⟩).2
      have w : zu_ib L ((b + 1 : Nat) : Int) (((2 ^ b : Nat) : Int) + y) = true := w
      rw [zu_ib_i, cp, show ((b + 1 : Nat) : Int) = (b : Int) + 1 by omega, q] at w
      exact c w.1)
    have l0 := hL 0 (by decide) (by omega)
    have cb := zu_ctF_b (fun i => decide (1 < L (1 + i))) b
    rw [e2, zu_ctF_add, fr]
    by_cases c : 1 < L 0
    · rw [h1 (Or.inl c), h3 (Or.inl c), ihL, if_pos c, Int.add_comm 1, zx_p2_s _ cb.1]
      omega
    · rw [if_neg c, Int.zero_add]
      by_cases d : L 0 = 0
      · rw [h1 (Or.inr d), h4 (by omega), ihL, Int.add_zero]
      · rw [h2 (by omega), h3 (Or.inr (by omega)), ihL, Int.zero_add]
noncomputable def zu_qb (ρ : zq_S) (k : Int) : Int → Bool := fun y => @decide (∃ o, 0 ≤ o ∧ o < k ∧ zt_is (zt_L ρ o) (ρ 0 2) y) (Classical.propDecidable _)
theorem zu_qb_i {ρ : zq_S} {k y : Int} : zu_qb ρ k y = true ↔ ∃ o, 0 ≤ o ∧ o < k ∧ zt_is (zt_L ρ o) (ρ 0 2) y := by
  unfold zu_qb
  exact ⟨fun q => @of_decide_eq_true _ (Classical.propDecidable _) q, fun q => @decide_eq_true _ (Classical.propDecidable _) q⟩
theorem zu_bcm_le {σ ρ : zq_S} {a o : Int} (hx : zx_T ρ) (h : zu_lk σ ρ a o) : zt_bc (σ a 1) ≤ ρ 0 2 := by
  have zb := zx_g2 hx
  rw [h.1, zu_bc_ct (by omega) (by omega)]
  have q := (zu_ctF_b (fun i => decide (zt_L ρ o i ≤ 1)) (ρ 0 2).toNat).2
  have q : zu_ct (fun i => decide (zt_L ρ o i ≤ 1)) (ρ 0 2) ≤ (((ρ 0 2).toNat : Nat) : Int) := q
  omega
theorem zu_holesL {σ ρ : zq_S} {v u : Int} (hx : zx_T ρ) (h : zu_T3 σ ρ) (e2 : σ 3 2 = ρ 0 2) (gp : v = zx_p2 (σ 3 2) - zu_sm (zu_cf1 σ) (σ 3 3)) (kp : u = zu_ct (zu_hb ρ) (zx_p2 (ρ 0 2))) : u = v := by
  have zb := zx_g2 hx
  have z3 := zx_g3 hx
  obtain ⟨⟨a1, a2⟩, a3, a4, a5, a6⟩ := id h
  have eb : (((ρ 0 2).toNat : Nat) : Int) = ρ 0 2 := by omega
  have ep : (zx_p2 (ρ 0 2)).toNat = 2 ^ (ρ 0 2).toNat := by
    have w : (((2 ^ (ρ 0 2).toNat : Nat)) : Int) = zx_p2 (ρ 0 2) := by rw [Int.natCast_pow]; rfl
    rw [← w]
    rfl
  have pp := zx_p2_pos (ρ 0 2)
  have one : ∀ o, 0 ≤ o → o < ρ 0 3 → zu_ctF (zu_ib (zt_L ρ o) (ρ 0 2)) (zx_p2 (ρ 0 2)).toNat = zu_cf1 σ o := fun o o0 o1 => by
    have w := zu_is_ct (ρ 0 2).toNat (by omega) (zt_L ρ o) (fun i _ _ => (zx_ga2 hx _).1)
    rw [eb] at w
    rw [ep, w]
    unfold zu_cf1
    rw [e2, (a4 o o0 o1).2.1.1, zu_bc_ct (by omega) (by omega)]
    congr 1
    have q := zu_ctF_not (P := fun i => decide (zt_L ρ o i ≤ 1)) (Q := fun i => decide (1 < zt_L ρ o i)) (ρ 0 2).toNat (fun i _ _ => by
      rw [decide_eq_true_eq, decide_eq_true_eq]
      omega)
    rw [eb] at q
    exact q
  have key : ∀ k : Nat, (k : Int) ≤ ρ 0 3 → zu_ctF (zu_qb ρ k) (zx_p2 (ρ 0 2)).toNat = zu_smF (zu_cf1 σ) k := by
    intro k
    induction k with
    | zero => intro _; exact zu_ctF_no _ (fun y _ _ q => by obtain ⟨o, o0, o1, _⟩ := zu_qb_i.mp q; omega)
    | succ k ih =>
      intro hk
      show _ = zu_smF (zu_cf1 σ) k + zu_cf1 σ k
      rw [← ih (by omega), ← one k (by omega) (by omega)]
      refine zu_ctF_or _ (fun y y0 y1 => ⟨?_, fun q => ?_⟩)
      · rw [zu_qb_i, zu_qb_i, zu_ib_i]
        constructor
        · intro ⟨o, o0, o1, w⟩
          by_cases c : o = k
          · rw [c] at w; exact Or.inr w
          · exact Or.inl ⟨o, o0, by omega, w⟩
        · intro w
          rcases w with ⟨o, o0, o1, w⟩ | w
          · exact ⟨o, o0, by omega, w⟩
          · exact ⟨k, by omega, by omega, w⟩
      · obtain ⟨o, o0, o1, w⟩ := zu_qb_i.mp q.1
        exact a5 o k o0 o1 (by omega) (zt_is_co w (zu_ib_i.mp q.2))
  have kN := key (ρ 0 3).toNat (by omega)
  rw [show (((ρ 0 3).toNat : Nat) : Int) = ρ 0 3 by omega] at kN
  have nt := zu_ctF_not (P := zu_qb ρ (ρ 0 3)) (Q := zu_hb ρ) (zx_p2 (ρ 0 2)).toNat (fun y y0 y1 => by
    rw [zu_qb_i]
    constructor
    · intro w ⟨o, o0, o1, g⟩
      exact (Classical.byContradiction (fun c => zu_hb_n c w) : zt_hl ρ y) o o0 o1 g
    · intro w
      exact zu_hb_y (fun o o0 o1 g => w ⟨o, o0, o1, g⟩))
  rw [kN] at nt
  have nt : zu_ct (zu_hb ρ) (zx_p2 (ρ 0 2)) = (((zx_p2 (ρ 0 2)).toNat : Nat) : Int) - zu_sm (zu_cf1 σ) (ρ 0 3) := nt
  rw [gp, kp, nt, e2, a1]
  omega
