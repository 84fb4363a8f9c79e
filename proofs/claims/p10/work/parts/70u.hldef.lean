/-! ===== HOLES counted ===== -/
def zu_ctF (P : Int → Bool) : Nat → Int
  | 0 => 0
  | k + 1 => zu_ctF P k + (if P k = true then 1 else 0)
/-- how many of the first n are so -/
def zu_ct (P : Int → Bool) (n : Int) : Int := zu_ctF P n.toNat
theorem zu_ct_0 (P : Int → Bool) : zu_ct P 0 = 0 := rfl
theorem zu_ct_y {P : Int → Bool} {k : Int} (h : 0 ≤ k) (hp : P k = true) : zu_ct P (k + 1) = zu_ct P k + 1 := by
  obtain ⟨j, rfl⟩ := Int.eq_ofNat_of_zero_le h
  show zu_ctF P j + (if P j = true then 1 else 0) = _
  rw [if_pos hp]
  rfl
theorem zu_ct_n {P : Int → Bool} {k : Int} (h : 0 ≤ k) (hp : ¬ P k = true) : zu_ct P (k + 1) = zu_ct P k := by
  obtain ⟨j, rfl⟩ := Int.eq_ofNat_of_zero_le h
  show zu_ctF P j + (if P j = true then 1 else 0) = _
  rw [if_neg hp, Int.add_zero]
  rfl
theorem zu_ctF_c {P Q : Int → Bool} : ∀ k : Nat, (∀ i : Int, 0 ≤ i → i < k → P i = Q i) → zu_ctF P k = zu_ctF Q k := by
  intro k
  induction k with
  | zero => intro _; rfl
  | succ k ih =>
    intro h
    show zu_ctF P k + (if P k = true then 1 else 0) = zu_ctF Q k + (if Q k = true then 1 else 0)
    rw [ih (fun i i0 i1 => h i i0 (by omega)), h k (by omega) (by omega)]
theorem zu_ctF_add (P : Int → Bool) (m : Nat) : ∀ k : Nat, zu_ctF P (m + k) = zu_ctF P m + zu_ctF (fun i => P (m + i)) k := by
  intro k
  induction k with
  | zero => show zu_ctF P m = zu_ctF P m + 0; omega
  | succ k ih =>
    show zu_ctF P (m + k) + (if P ((m + k : Nat) : Int) = true then 1 else 0) = zu_ctF P m + (zu_ctF (fun i => P (m + i)) k + (if P ((m : Int) + (k : Int)) = true then 1 else 0))
    rw [ih, show ((m + k : Nat) : Int) = (m : Int) + (k : Int) by omega]
    omega
theorem zu_ctF_no {P : Int → Bool} : ∀ k : Nat, (∀ i : Int, 0 ≤ i → i < k → ¬ P i = true) → zu_ctF P k = 0 := by
  intro k
  induction k with
  | zero => intro _; rfl
  | succ k ih =>
    intro h
    show zu_ctF P k + (if P k = true then 1 else 0) = 0
    rw [ih (fun i i0 i1 => h i i0 (by omega)), if_neg (h k (by omega) (by omega))]
    rfl
theorem zu_ctF_or {P Q R : Int → Bool} : ∀ k : Nat, (∀ i : Int, 0 ≤ i → i < k → (R i = true ↔ P i = true ∨ Q i = true) ∧ ¬ (P i = true ∧ Q i = true)) → zu_ctF R k = zu_ctF P k + zu_ctF Q k := by
  intro k
  induction k with
  | zero => intro _; rfl
  | succ k ih =>
    intro h
    obtain ⟨e1, e2⟩ := h k (by omega) (by omega)
    show zu_ctF R k + (if R k = true then 1 else 0) = zu_ctF P k + (if P k = true then 1 else 0) + (zu_ctF Q k + (if Q k = true then 1 else 0))
    rw [ih (fun i i0 i1 => h i i0 (by omega))]
    by_cases c : P k = true
    · rw [if_pos c, if_neg (fun q => e2 ⟨c, q⟩), if_pos (e1.mpr (Or.inl c))]; omega
    · by_cases d : Q k = true
      · rw [if_neg c, if_pos d, if_pos (e1.mpr (Or.inr d))]; omega
      · rw [if_neg c, if_neg d, if_neg (fun q => (e1.mp q).elim c d)]; omega
theorem zu_ctF_not {P Q : Int → Bool} : ∀ k : Nat, (∀ i : Int, 0 ≤ i → i < k → (Q i = true ↔ ¬ P i = true)) → zu_ctF Q k = k - zu_ctF P k := by
  intro k
  induction k with
  | zero => intro _; rfl
  | succ k ih =>
    intro h
    have e1 := h k (by omega) (by omega)
    show zu_ctF Q k + (if Q k = true then 1 else 0) = ((k + 1 : Nat) : Int) - (zu_ctF P k + (if P k = true then 1 else 0))
    rw [ih (fun i i0 i1 => h i i0 (by omega))]
    by_cases c : P k = true
    · rw [if_pos c, if_neg (fun q => e1.mp q c)]; omega
    · rw [if_neg c, if_pos (e1.mpr c)]; omega
def zu_smF (f : Int → Int) : Nat → Int
  | 0 => 0
  | k + 1 => zu_smF f k + f k
def zu_sm (f : Int → Int) (k : Int) : Int := zu_smF f k.toNat
theorem zu_sm_0 (f : Int → Int) : zu_sm f 0 = 0 := rfl
theorem zu_sm_s {f : Int → Int} {k : Int} (h : 0 ≤ k) : zu_sm f (k + 1) = zu_sm f k + f k := by
  obtain ⟨j, rfl⟩ := Int.eq_ofNat_of_zero_le h
  rfl
noncomputable def zu_hb (ρ : zq_S) : Int → Bool := fun y => @decide (zt_hl ρ y) (Classical.propDecidable _)
theorem zu_hb_y {ρ : zq_S} {y : Int} (h : zt_hl ρ y) : zu_hb ρ y = true := @decide_eq_true (zt_hl ρ y) (Classical.propDecidable _) h
theorem zu_hb_n {ρ : zq_S} {y : Int} (h : ¬ zt_hl ρ y) : ¬ zu_hb ρ y = true := fun q => h (@of_decide_eq_true (zt_hl ρ y) (Classical.propDecidable _) q)
/-- how many bits are an ORDER of the class -/
def zu_cf1 (σ : zq_S) : Int → Int := fun i => zx_p2 (σ 3 2 - zt_bc (σ (σ 10 i) 1))
