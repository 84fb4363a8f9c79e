/-! ===== the stepper as one row; how a step is undone ===== -/
/-- wrapped to 32 bits -/
def zs_w (x : Int) : Int := (x + 2147483648) % 4294967296 - 2147483648
theorem zs_w_id {x : Int} (h : zq_in x) : zs_w x = x := by
  unfold zq_in at h
  unfold zs_w
  omega
theorem zs_w_m {x : Int} (h : zq_in x) : zs_w (zs_w (x + 1) - 1) = x := by
  unfold zq_in at h
  unfold zs_w
  omega
def zs_row (σ : zq_S) : Int → Int := fun i => if i ≤ 265 then zw_cs σ 141 i else if i ≤ 269 then σ 140 (i - 258) else σ 254 (i - 272)
def zs_undo (c : Int → Int) (s : Int → Int) : Int → Int := fun i => if i < 264 then zw_un (fun j => c (7 + 2 * j)) (fun j => c (8 + 2 * j)) (c 6) s i else if i = 264 then c 1 else if i = 265 then c 0 else if i = 266 then zs_w (s 266 - 1) else if i = 267 then c 3 else if i = 268 then c 4 else if i = 269 then c 5 else if i = 272 + c 0 then c 2 else s i
theorem zs_undo_c {c c' s s' : Int → Int} {i : Int} (hc : ∀ j, 0 ≤ j → j < 13 → c' j = c j) (h6 : c 6 ≤ 3) (hs : s' i = s i) : zs_undo c' s' i = zs_undo c s i := by
  unfold zs_undo
  rw [hc 0 (by decide) (by decide), hc 1 (by decide) (by decide), hc 2 (by decide) (by decide), hc 3 (by decide) (by decide), hc 4 (by decide) (by decide), hc 5 (by decide) (by decide), hc 6 (by decide) (by decide), hs]
  by_cases c1 : i < 264
  · rw [if_pos c1, if_pos c1]
    exact zw_un_c (fun j j0 j1 => ⟨hc _ (by omega) (by omega), hc _ (by omega) (by omega)⟩) hs
  · rw [if_neg c1, if_neg c1]
    by_cases c2 : i = 266
    · rw [c2] at hs
      rw [hs]
    · rw [if_neg c2, if_neg c2]
def zs_UF (R : Int → Int → Int) (nx : Int) (s : Int → Int) : Nat → Int → Int
  | 0 => s
  | k + 1 => zs_undo (R ((nx + 99 - k) % 100)) (zs_UF R nx s k)
/-- the stepper as it was n steps ago -/
def zs_U (σ : zq_S) (n : Int) : Int → Int := zs_UF (fun r => σ (154 + r)) (σ 140 6) (zs_row σ) n.toNat
theorem zs_UF_0 (R : Int → Int → Int) (nx : Int) (s : Int → Int) : zs_UF R nx s 0 = s := rfl
theorem zs_UF_s (R : Int → Int → Int) (nx : Int) (s : Int → Int) (k : Nat) : zs_UF R nx s (k + 1) = zs_undo (R ((nx + 99 - k) % 100)) (zs_UF R nx s k) := rfl
/-- one step more -/
theorem zs_UF_step {R R' : Int → Int → Int} {nx nx' : Int} {s s' : Int → Int} {i : Int} (hn : 0 ≤ nx ∧ nx < 100) (hn' : nx' = (nx + 1) % 100) (h6 : ∀ r, 0 ≤ r → r < 100 → R r 6 ≤ 3) (hR : ∀ r j, 0 ≤ r → r < 100 → r ≠ nx → 0 ≤ j → j < 13 → R' r j = R r j) (h1 : zs_undo (R' nx) s' i = s i) : ∀ k : Nat, k < 100 → zs_UF R' nx' s' (k + 1) i = zs_UF R nx s k i := by
  intro k
  induction k with
  | zero =>
    intro _
    rw [zs_UF_s, zs_UF_0, zs_UF_0, show (nx' + 99 - ((0 : Nat) : Int)) % 100 = nx by omega]
    exact h1
  | succ k ih =>
    intro hk
    rw [zs_UF_s R' nx' s' (k + 1), zs_UF_s R nx s k, show (nx' + 99 - ((k + 1 : Nat) : Int)) % 100 = (nx + 99 - (k : Int)) % 100 by omega]
    exact zs_undo_c (fun j j0 j1 => hR _ j (by omega) (by omega) (by omega) j0 j1) (h6 _ (by omega) (by omega)) (ih (by omega))
theorem zs_w_any {x y : Int} (h : zq_in y) (e : Int32.ofInt y = Int32.ofInt x) : y = zs_w x := by
  have e1 := congrArg Int32.toInt e
  rw [Int32.toInt_ofInt, Int32.toInt_ofInt] at e1
  have e2 : Int.bmod y 4294967296 = Int.bmod x 4294967296 := e1
  rw [Int.bmod_def, Int.bmod_def] at e2
  unfold zq_in at h
  unfold zs_w
  omega

