/-! ===== prices: a model over the reference's cells ===== -/
def zp_rm (D : zq_S) (o n : Int) : Bool := decide (D 21 n = 1 ∧ zq_shr (D 22 n) (zx_cnt D o 3 (D 0 2)) = 0)
def zp_lit (D : zq_S) (o : Int) : Bool := decide (zx_form D o = 4 ∨ zx_form D o = 6)
def zp_ipv (D : zq_S) (o n : Int) : Bool := decide (5 ≤ zx_form D o ∧ D 21 (D 23 n) = 0)
/-- the cost of node n by ORDER o; below 0: none -/
def zp_c (D : zq_S) (p : Int → Int) (mv o n : Int) : Int :=
  if D 21 n = 1 then (if zx_form D o = 1 ∧ zp_rm D o n = true then D 7 o else -1)
  else if ¬ (3 ≤ zx_form D o ∧ D 6 (18 * o + 3) = D 22 n) then -1
  else if p (D 23 n) < 0 then -1
  else if (zp_lit D o = true ∧ ¬ zp_rm D o (D 24 n) = true) ∨ (¬ zp_lit D o = true ∧ p (D 24 n) < 0) then -1
  else if zp_ipv D o n = true ∧ mv < 0 then -1
  else p (D 23 n) + (if zp_lit D o = true then 0 else p (D 24 n)) + D 7 o + (if zp_ipv D o n = true then D 7 mv else 0)
section ZPC
variable {D : zq_S} {p : Int → Int} {mv o n : Int}
end ZPC
def zp_bF (c : Int → Int) : Nat → Int × Int
  | 0 => (-1, -1)
  | k + 1 => if 0 ≤ c k ∧ ((zp_bF c k).1 < 0 ∨ c k < (zp_bF c k).1) then (c k, (k : Int)) else zp_bF c k
/-- the least of the costs that are there, and the first that has it -/
def zp_b (c : Int → Int) (k : Int) : Int × Int := zp_bF c k.toNat
def zp_prF (D : zq_S) (mv : Int) : Nat → Int → Int × Int
  | 0 => fun _ => (-1, -1)
  | n + 1 => fun j => if j = n then (if D 21 n = 0 then (0, -1) else zp_b (fun o => zp_c D (fun i => (zp_prF D mv n i).1) mv o n) (D 0 3)) else zp_prF D mv n j
/-- the first n nodes: price and ORDER -/
def zp_pr (D : zq_S) (mv n j : Int) : Int × Int := zp_prF D mv n.toNat j
