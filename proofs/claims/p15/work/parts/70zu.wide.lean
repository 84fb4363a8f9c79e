/-! ===== the machine as it was told: what an ORDER does ===== -/
def zw_ad (F s : Int → Int) (w : Int) : Int := if w = 9 then F 3 else s (F (w - 6))
/-- the word of an operand -/
def zw_va (F s : Int → Int) (m w n : Int) : Int := if w < 3 then s (F w) else if w = 3 then F 3 else if w = 4 then s 264 else if w = 5 then zq_and (s 265) m else if w = 10 then zq_and n m else s (8 + zw_ad F s w)
def zw_rk (g x y : Int) : Int := if g = 1 then x + y else if g = 2 then x - y else if g = 3 then zq_and x y else if g = 4 then zq_or x y else if g = 5 then zq_xor x y else if g = 6 then (if x < y then 1 else 0) else x
def zw_vl (F s : Int → Int) (m : Int) (A : Int → Int) (p : Int) : Int := zq_and (zw_rk (A (p + 3)) (zw_va F s m (A (p + 1)) (A (p + 2))) (if 0 < A (p + 3) then zw_va F s m (A (p + 4)) (A (p + 5)) else 0)) m
def zw_ix (F s : Int → Int) (t : Int) : Int := if t < 3 then F t else if t = 4 then 264 else if t = 5 then 265 else 8 + zw_ad F s t
def zw_nv (t v : Int) : Int := if t = 4 then (if v = 0 then 0 else 1) else if t = 5 then v % 64 else v
def zw_up (s : Int → Int) (i v : Int) : Int → Int := fun j => if j = i then v else s j
/-- an ACT -/
def zw_ac (F : Int → Int) (m : Int) (A : Int → Int) (p : Int) (s : Int → Int) : Int → Int := zw_up s (zw_ix F s (A p)) (zw_nv (A p) (zw_vl F s m A p))
def zw_asF (F : Int → Int) (m : Int) (A : Int → Int) (p : Int) (s : Int → Int) : Nat → Int → Int
  | 0 => s
  | k + 1 => zw_ac F m A (p + 6 * k) (zw_asF F m A p s k)
def zw_as (F : Int → Int) (m : Int) (A : Int → Int) (p n : Int) (s : Int → Int) : Int → Int := zw_asF F m A p s n.toNat
theorem zw_as_0 (F : Int → Int) (m : Int) (A : Int → Int) (p : Int) (s : Int → Int) : zw_as F m A p 0 s = s := rfl
theorem zw_as_s {F : Int → Int} {m : Int} {A : Int → Int} {p n : Int} {s : Int → Int} (h : 0 ≤ n) : zw_as F m A p (n + 1) s = zw_ac F m A (p + 6 * n) (zw_as F m A p n s) := by
  obtain ⟨k, rfl⟩ := Int.eq_ofNat_of_zero_le h
  rfl
/-- the GUARD lets -/
def zw_gd (F s : Int → Int) (g d : Int) : Prop := g = 0 ∨ ((if d = 4 then s 264 else s (F d)) ≠ 0 ↔ g = 1)
noncomputable def zw_do (F : Int → Int) (m : Int) (A : Int → Int) (o g d n : Int) (s : Int → Int) : Int → Int := @ite _ (zw_gd F s g d) (Classical.propDecidable _) (zw_as F m A (18 * o) n s) s
theorem zw_do_y {F : Int → Int} {m : Int} {A : Int → Int} {o g d n : Int} {s : Int → Int} (h : zw_gd F s g d) : zw_do F m A o g d n s = zw_as F m A (18 * o) n s := by unfold zw_do; exact if_pos h
theorem zw_do_n {F : Int → Int} {m : Int} {A : Int → Int} {o g d n : Int} {s : Int → Int} (h : ¬ zw_gd F s g d) : zw_do F m A o g d n s = s := by unfold zw_do; exact if_neg h
section ZWV
variable {F s : Int → Int} {m w n : Int}
theorem zw_va_0 (h : w < 3) : zw_va F s m w n = s (F w) := by unfold zw_va; rw [if_pos h]
theorem zw_va_3 (h : w = 3) : zw_va F s m w n = F 3 := by unfold zw_va; rw [if_neg (by omega), if_pos h]
theorem zw_va_4 (h : w = 4) : zw_va F s m w n = s 264 := by unfold zw_va; rw [if_neg (by omega), if_neg (by omega), if_pos h]
theorem zw_va_5 (h : w = 5) : zw_va F s m w n = zq_and (s 265) m := by unfold zw_va; rw [if_neg (by omega), if_neg (by omega), if_neg (by omega), if_pos h]
theorem zw_va_10 (h : w = 10) : zw_va F s m w n = zq_and n m := by unfold zw_va; rw [if_neg (by omega), if_neg (by omega), if_neg (by omega), if_neg (by omega), if_pos h]
theorem zw_va_m (h : 6 ≤ w ∧ w ≤ 9) : zw_va F s m w n = s (8 + zw_ad F s w) := by unfold zw_va; rw [if_neg (by omega), if_neg (by omega), if_neg (by omega), if_neg (by omega), if_neg (by omega)]
end ZWV
