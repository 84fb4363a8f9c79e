/-! ===== make: which nodes go into which REGISTER ===== -/
section ZMT
variable {K L R f : Int → Int} {N : Int}
end ZMT
/-- the left side's REGISTER; -1: it stays -/
def zm_l (D : zq_S) (C : Int → Int) (n x : Int) : Int := if D 21 (D 23 n) = 0 ∧ zx_form D (C n) < 5 then -1 else x
def zm_r (D : zq_S) (C : Int → Int) (n x : Int) : Int := if (zx_form D (C n) = 3 ∨ zx_form D (C n) = 5) ∧ D 21 (D 24 n) ≠ 0 then (if D 21 (D 23 n) = 0 ∧ zx_form D (C n) < 5 then x else x + 1) else -1
def zm_st (D : zq_S) (C : Int → Int) (I : Int → Int) (n : Int) : Int → Int := fun i => if i = D 24 n ∧ zm_r D C n (I n) ≠ -1 then zm_r D C n (I n) else if i = D 23 n ∧ zm_l D C n (I n) ≠ -1 then zm_l D C n (I n) else I i
def zm_iF (D : zq_S) (C : Int → Int) (v : Int) : Nat → Int → Int
  | 0 => fun i => if i = D 0 37 - 1 then v else -1
  | k + 1 => if zm_iF D C v k (D 0 37 - 1 - k) ≠ -1 ∧ D 21 (D 0 37 - 1 - k) = 2 then zm_st D C (zm_iF D C v k) (D 0 37 - 1 - k) else zm_iF D C v k
/-- behind the nodes from n + 1 on -/
def zm_i (D : zq_S) (C : Int → Int) (v n : Int) : Int → Int := zm_iF D C v (D 0 37 - 1 - n).toNat
/-- the REGISTER of each node's CODE; -1: none -/
def zm_I (D : zq_S) (C : Int → Int) (v : Int) : Int → Int := zm_i D C v (-1)
/-- what the chosen ORDERS keep: P prices -/
def zm_F (D : zq_S) (C P : Int → Int) (mv : Int) : Prop := ∀ j, 0 ≤ j → j < D 0 37 → 0 ≤ P j → (D 21 j ≠ 0 → 0 ≤ C j ∧ C j < D 0 3) ∧ (D 21 j = 1 → zx_form D (C j) = 1 ∧ zp_rm D (C j) j = true) ∧ (D 21 j = 2 → 3 ≤ zx_form D (C j) ∧ 0 ≤ P (D 23 j) ∧ ((zx_form D (C j) = 4 ∨ zx_form D (C j) = 6) → D 21 (D 24 j) = 1 ∧ zp_rm D (C j) (D 24 j) = true) ∧ ((zx_form D (C j) = 3 ∨ zx_form D (C j) = 5) → 0 ≤ P (D 24 j)) ∧ (5 ≤ zx_form D (C j) → D 21 (D 23 j) = 0 → 0 ≤ mv))
/-- what is known of the REGISTERS when the nodes behind n are done -/
def zm_Y (D : zq_S) (C P I : Int → Int) (mv v n : Int) : Prop :=
  I (D 0 37 - 1) = v ∧ (∀ j, I j = -1 ∨ (0 ≤ I j ∧ I j ≤ v + (D 0 37 - 1 - j))) ∧
  (∀ j, 0 ≤ j → j < D 0 37 → D 21 j = 2 → (n < j → I j ≠ -1 → I (D 23 j) = zm_l D C j (I j) ∧ I (D 24 j) = zm_r D C j (I j)) ∧ (n < j → I j = -1 → I (D 23 j) = -1 ∧ I (D 24 j) = -1) ∧ (j ≤ n → I (D 23 j) = -1 ∧ I (D 24 j) = -1)) ∧
  (∀ j, 0 ≤ j → j < D 0 37 → I j ≠ -1 → 0 ≤ P j ∧ (D 21 j = 0 → 0 ≤ mv)) ∧
  (∀ j, I j ≠ -1 → ∀ g, zx_tree (D 21) (D 23) (D 24) g (D 0 37) → g (D 0 37 - 1) ≤ j ∧ j ≤ D 0 37 - 1)
/-! ===== make: what is put, node by node ===== -/
def zm_nF (I : Int → Int) : Nat → Int
  | 0 => 0
  | k + 1 => if I k ≠ -1 then zm_nF I k + 1 else zm_nF I k
/-- how many nodes ahead of p have CODE -/
def zm_n (I : Int → Int) (p : Int) : Int := zm_nF I p.toNat
def zm_mF (I w : Int → Int) : Nat → Int → Int
  | 0 => fun _ => 0
  | k + 1 => fun i => if I k ≠ -1 ∧ i = zm_nF I k then w k else zm_mF I w k i
/-- CODE of the nodes ahead of p, one behind the other -/
def zm_m (I w : Int → Int) (p i : Int) : Int := zm_mF I w p.toNat i
def zm_E (I w : Int → Int) (M : Int → Int) (p : Int) : Prop := ∀ i, 0 ≤ i → i < zm_n I p → M i = zm_m I w p i
/-- there are REGISTERS for all nodes ahead of p -/
def zm_G (I : Int → Int) (g p : Int) : Prop := ∀ j, 0 ≤ j → j < p → I j ≠ -1 → I j < g
def zm_v (a b c d : Int) : Int → Int := fun i => if i = 0 then a else if i = 1 then b else if i = 2 then c else d
def zm_la (D : zq_S) (C I : Int → Int) (j : Int) : Int := if D 21 (D 23 j) = 0 ∧ zx_form D (C j) < 5 then D 22 (D 23 j) else I j
def zm_ra (D : zq_S) (C I : Int → Int) (j : Int) : Int := if D 21 (D 24 j) = 0 then D 22 (D 24 j) else if D 21 (D 23 j) = 0 ∧ zx_form D (C j) < 5 then I j else I j + 1
/-- the ORDER and the numbers of a node's CODE -/
def zm_o (D : zq_S) (C : Int → Int) (mv j : Int) : Int := if D 21 j = 0 then mv else C j
def zm_nu (D : zq_S) (C I : Int → Int) (j : Int) : Int → Int :=
  if D 21 j = 0 then zm_v (I j) (D 22 j) 0 0 else if D 21 j = 1 then zm_v (I j) 0 0 (D 22 j) else
  if zx_form D (C j) = 3 then zm_v (I j) (zm_la D C I j) (zm_ra D C I j) 0 else if zx_form D (C j) = 4 then zm_v (I j) (zm_la D C I j) 0 (D 22 (D 24 j)) else
  if zx_form D (C j) = 5 then zm_v (I j) (zm_ra D C I j) 0 0 else zm_v (I j) 0 0 (D 22 (D 24 j))
def zm_w (D : zq_S) (C I : Int → Int) (mv j : Int) : Int := zu_rbt D (zm_o D C mv j) (zm_nu D C I j) (D 0 2)

