/-! ===== a LINE read ===== -/
section ZUln
variable (H : Int → Bool) (X : Int → Int) (t : Int → Int) (n : Int)
def zu_l1 (a k : Int) : Int := if zu_an H k = true then zt_tkA t n 44 a else a
def zu_ls (p : Int × Bool) (k : Int) : Int × Bool := if p.2 = true ∧ H k = true then (if zu_an H k = true ∧ zt_tkR t n 44 p.1 = 0 then (zt_tkA t n 44 p.1, false) else (zt_nuA t n (X k) (zu_l1 H t n p.1 k), decide (0 ≤ zt_nuR t n (X k) (zu_l1 H t n p.1 k)))) else p
def zu_lnF (a : Int) : Nat → Int × Bool
  | 0 => (a, true)
  | k + 1 => zu_ls H X t n (zu_lnF a k) k
/-- where the cursor is behind the first k FIELDS, and whether all could stand -/
def zu_ln (a k : Int) : Int × Bool := zu_lnF H X t n a k.toNat
/-- the number of a FIELD -/
def zu_lv (a k : Int) : Int := zt_nuR t n (X k) (zu_l1 H t n (zu_ln H X t n a k).1 k)
end ZUln
section ZUln2
variable {H : Int → Bool} {X : Int → Int} {t : Int → Int} {n a k : Int}
theorem zu_ln_s (h : 0 ≤ k) : zu_ln H X t n a (k + 1) = zu_ls H X t n (zu_ln H X t n a k) k := by
  obtain ⟨j, rfl⟩ := Int.eq_ofNat_of_zero_le h
  rfl
theorem zu_ln_n (h : 0 ≤ k) (hH : ¬ H k = true) : zu_ln H X t n a (k + 1) = zu_ln H X t n a k := by
  rw [zu_ln_s h]
  unfold zu_ls
  rw [if_neg (fun q => hH q.2)]
theorem zu_ln_c (h : 0 ≤ k) (ok : (zu_ln H X t n a k).2 = true) (hH : H k = true) (an : zu_an H k = true) (f : zt_tkR t n 44 (zu_ln H X t n a k).1 = 0) : zu_ln H X t n a (k + 1) = (zt_tkA t n 44 (zu_ln H X t n a k).1, false) := by
  rw [zu_ln_s h]
  unfold zu_ls
  rw [if_pos ⟨ok, hH⟩, if_pos ⟨an, f⟩]
theorem zu_ln_m (h : 0 ≤ k) (ok : (zu_ln H X t n a k).2 = true) (hH : H k = true) (nf : ¬ (zu_an H k = true ∧ zt_tkR t n 44 (zu_ln H X t n a k).1 = 0)) : zu_ln H X t n a (k + 1) = (zt_nuA t n (X k) (zu_l1 H t n (zu_ln H X t n a k).1 k), decide (0 ≤ zu_lv H X t n a k)) := by
  rw [zu_ln_s h]
  unfold zu_ls
  rw [if_pos ⟨ok, hH⟩, if_neg nf]
  rfl
theorem zu_ln_fF (j : Nat) (hf : (zu_lnF H X t n a j).2 = false) : ∀ i : Nat, zu_lnF H X t n a (j + i) = zu_lnF H X t n a j := by
  intro i
  induction i with
  | zero => rfl
  | succ i ih =>
    show zu_ls H X t n (zu_lnF H X t n a (j + i)) ((j + i : Nat) : Int) = _
    rw [ih]
    unfold zu_ls
    rw [if_neg (fun q => by rw [hf] at q; exact absurd q.1 (by decide))]
theorem zu_ln_f {m : Int} (k0 : 0 ≤ k) (hf : (zu_ln H X t n a k).2 = false) (hm : k ≤ m) : zu_ln H X t n a m = zu_ln H X t n a k := by
  have q := zu_ln_fF k.toNat hf (m - k).toNat
  rw [show k.toNat + (m - k).toNat = m.toNat by omega] at q
  exact q
theorem zu_l1_y (b : Int) (h : zu_an H k = true) : zu_l1 H t n b k = zt_tkA t n 44 b := if_pos h
theorem zu_l1_n (b : Int) (h : ¬ zu_an H k = true) : zu_l1 H t n b k = b := if_neg h
theorem zu_an_y (h : 0 ≤ k) (hH : H k = true) : zu_an H (k + 1) = true := by
  obtain ⟨j, rfl⟩ := Int.eq_ofNat_of_zero_le h
  show (zu_anF H j || H j) = true
  rw [hH, Bool.or_true]
theorem zu_an_n (h : 0 ≤ k) (hH : ¬ H k = true) : zu_an H (k + 1) = zu_an H k := by
  obtain ⟨j, rfl⟩ := Int.eq_ofNat_of_zero_le h
  show (zu_anF H j || H j) = zu_anF H j
  rw [Bool.eq_false_iff.mpr hH, Bool.or_false]
end ZUln2
theorem zu_anF_c {H H' : Int → Bool} : ∀ k : Nat, (∀ i : Int, 0 ≤ i → i < k → H i = H' i) → zu_anF H k = zu_anF H' k := by
  intro k
  induction k with
  | zero => intro _; rfl
  | succ k ih =>
    intro h
    show (zu_anF H k || H k) = (zu_anF H' k || H' k)
    rw [ih (fun i i0 i1 => h i i0 (by omega)), h k (by omega) (by omega)]
theorem zu_lnF_c {H H' : Int → Bool} {X X' : Int → Int} {t : Int → Int} {n a : Int} : ∀ k : Nat, (∀ i : Int, 0 ≤ i → i < k → H i = H' i ∧ X i = X' i) → zu_lnF H X t n a k = zu_lnF H' X' t n a k := by
  intro k
  induction k with
  | zero => intro _; rfl
  | succ k ih =>
    intro h
    obtain ⟨e1, e2⟩ := h k (by omega) (by omega)
    have ea : zu_an H (k : Int) = zu_an H' (k : Int) := zu_anF_c k (fun i i0 i1 => (h i i0 (by omega)).1)
    show zu_ls H X t n (zu_lnF H X t n a k) k = zu_ls H' X' t n (zu_lnF H' X' t n a k) k
    rw [ih (fun i i0 i1 => h i i0 (by omega))]
    unfold zu_ls zu_l1
    rw [e1, e2, ea]
theorem zu_lv_c {H H' : Int → Bool} {X X' : Int → Int} {t : Int → Int} {n a k : Int} (k0 : 0 ≤ k) (h : ∀ i : Int, 0 ≤ i → i ≤ k → H i = H' i ∧ X i = X' i) : zu_lv H X t n a k = zu_lv H' X' t n a k := by
  have ea : zu_an H k = zu_an H' k := zu_anF_c k.toNat (fun i i0 i1 => (h i i0 (by omega)).1)
  have el : zu_ln H X t n a k = zu_ln H' X' t n a k := zu_lnF_c k.toNat (fun i i0 i1 => h i i0 (by omega))
  unfold zu_lv zu_l1
  rw [el, ea, (h k k0 (Int.le_refl k)).2]
/-! ===== a FIELD put into bits ===== -/
def zu_wfF (m b r : Int) : Nat → Int × Int
  | 0 => (b, r)
  | k + 1 => if zq_and m (zx_p2 k) ≠ 0 then (zq_or (zu_wfF m b r k).1 (if zq_and (zu_wfF m b r k).2 1 = 0 then 0 else zx_p2 k), zq_shr (zu_wfF m b r k).2 1) else zu_wfF m b r k
def zu_wf (m b r k : Int) : Int × Int := zu_wfF m b r k.toNat
section ZUwf
variable {m b r k : Int}
theorem zu_wf_e (h : 0 ≤ k) : zu_wf m b r (k + 1) = if zq_and m (zx_p2 k) ≠ 0 then (zq_or (zu_wf m b r k).1 (if zq_and (zu_wf m b r k).2 1 = 0 then 0 else zx_p2 k), zq_shr (zu_wf m b r k).2 1) else zu_wf m b r k := by
  obtain ⟨j, rfl⟩ := Int.eq_ofNat_of_zero_le h
  rfl
theorem zu_wf_n (h : 0 ≤ k) (hm : zq_and m (zx_p2 k) = 0) : zu_wf m b r (k + 1) = zu_wf m b r k := by rw [zu_wf_e h, if_neg (fun q => q hm)]
theorem zu_wf_y0 (h : 0 ≤ k) (hm : zq_and m (zx_p2 k) ≠ 0) (hr : zq_and (zu_wf m b r k).2 1 = 0) : zu_wf m b r (k + 1) = (zq_or (zu_wf m b r k).1 0, zq_shr (zu_wf m b r k).2 1) := by rw [zu_wf_e h, if_pos hm, if_pos hr]
theorem zu_wf_y1 (h : 0 ≤ k) (hm : zq_and m (zx_p2 k) ≠ 0) (hr : ¬ zq_and (zu_wf m b r k).2 1 = 0) : zu_wf m b r (k + 1) = (zq_or (zu_wf m b r k).1 (zx_p2 k), zq_shr (zu_wf m b r k).2 1) := by rw [zu_wf_e h, if_pos hm, if_neg hr]
end ZUwf
def zu_btF (H : Int → Bool) (M V : Int → Int) (b : Int) : Nat → Int
  | 0 => b
  | k + 1 => if H k = true then (zu_wf (M k) (zu_btF H M V b k) (V k) 12).1 else zu_btF H M V b k
/-- bits with the first k FIELDS put in -/
def zu_bt (H : Int → Bool) (M V : Int → Int) (b k : Int) : Int := zu_btF H M V b k.toNat
theorem zu_bt_y {H : Int → Bool} {M V : Int → Int} {b k : Int} (h : 0 ≤ k) (hH : H k = true) : zu_bt H M V b (k + 1) = (zu_wf (M k) (zu_bt H M V b k) (V k) 12).1 := by
  obtain ⟨j, rfl⟩ := Int.eq_ofNat_of_zero_le h
  show (if H j = true then (zu_wf (M j) (zu_btF H M V b j) (V j) 12).1 else zu_btF H M V b j) = _
  rw [if_pos hH]
  rfl
theorem zu_bt_n {H : Int → Bool} {M V : Int → Int} {b k : Int} (h : 0 ≤ k) (hH : ¬ H k = true) : zu_bt H M V b (k + 1) = zu_bt H M V b k := by
  obtain ⟨j, rfl⟩ := Int.eq_ofNat_of_zero_le h
  show (if H j = true then (zu_wf (M j) (zu_btF H M V b j) (V j) 12).1 else zu_btF H M V b j) = _
  rw [if_neg hH]
  rfl
/-- how it ends -/
def zu_lq (P : Int × Bool) (t : Int → Int) (n B r p : Int) : Prop := (P.2 = false → r < 0 ∧ p = P.1) ∧ (P.2 = true → (zt_nx t n P.1 ≠ -1 → r < 0 ∧ p = zt_sk t n P.1) ∧ (zt_nx t n P.1 = -1 → 0 ≤ r ∧ r = B))
def zu_la (P : Int × Bool) (t : Int → Int) (n B r : Int) : Prop := (P.2 = false → r = -20 - P.1) ∧ (P.2 = true → (zt_nx t n P.1 ≠ -1 → r = -20 - zt_sk t n P.1) ∧ (zt_nx t n P.1 = -1 → r = B))
def zu_cX (σ : zq_S) (a : Int) : Int → Int := fun f => zx_p2 (zt_bc (σ (a + 1) f)) - 1
def zu_rX (ρ : zq_S) (o : Int) : Int → Int := fun f => zx_p2 (zx_cnt ρ o f (ρ 0 2)) - 1
def zu_cln (σ : zq_S) (a : Int) (t : Int → Int) (n k : Int) : Int × Bool := zu_ln (zu_cH σ a) (zu_cX σ a) t n (zt_p0 t n) k
def zu_clv (σ : zq_S) (a : Int) (t : Int → Int) (n : Int) : Int → Int := fun k => zu_lv (zu_cH σ a) (zu_cX σ a) t n (zt_p0 t n) k
def zu_cbt (σ : zq_S) (a : Int) (t : Int → Int) (n k : Int) : Int := zu_bt (zu_cH σ a) (σ (a + 1)) (zu_clv σ a t n) (σ a 2) k
def zu_rln (ρ : zq_S) (o : Int) (t : Int → Int) (n k : Int) : Int × Bool := zu_ln (zu_rH ρ o) (zu_rX ρ o) t n (zt_p0 t n) k
def zu_rlv (ρ : zq_S) (o : Int) (t : Int → Int) (n : Int) : Int → Int := fun k => zu_lv (zu_rH ρ o) (zu_rX ρ o) t n (zt_p0 t n) k
/-- bits of the reference, by numbers for FIELDS -/
def zu_rbi (ρ : zq_S) (o : Int) (V : Int → Int) (i : Int) : Int := if zt_L ρ o i = 2 then zq_and (zq_shr (V 0) (zx_cnt ρ o 0 (ρ 0 2) - zx_cnt ρ o 0 (i + 1))) 1 else if zt_L ρ o i = 3 then zq_and (zq_shr (V 1) (zx_cnt ρ o 1 (ρ 0 2) - zx_cnt ρ o 1 (i + 1))) 1 else if zt_L ρ o i = 4 then zq_and (zq_shr (V 2) (zx_cnt ρ o 2 (ρ 0 2) - zx_cnt ρ o 2 (i + 1))) 1 else if zt_L ρ o i = 5 then zq_and (zq_shr (V 3) (zx_cnt ρ o 3 (ρ 0 2) - zx_cnt ρ o 3 (i + 1))) 1 else zt_L ρ o i
def zu_rbt (ρ : zq_S) (o : Int) (V : Int → Int) (k : Int) : Int := zt_mk (fun i => decide (zu_rbi ρ o V i = 1)) k
section ZUrbi
variable {ρ : zq_S} {o : Int} {V : Int → Int} {i c : Int}
theorem zu_rbi_2 (hL : zt_L ρ o i = 2) (hc : zx_cnt ρ o 0 (ρ 0 2) - zx_cnt ρ o 0 (i + 1) = c) : zu_rbi ρ o V i = zq_and (zq_shr (V 0) c) 1 := by unfold zu_rbi; rw [if_pos hL, hc]
theorem zu_rbi_3 (hL : zt_L ρ o i = 3) (hc : zx_cnt ρ o 1 (ρ 0 2) - zx_cnt ρ o 1 (i + 1) = c) : zu_rbi ρ o V i = zq_and (zq_shr (V 1) c) 1 := by unfold zu_rbi; rw [if_neg (by omega), if_pos hL, hc]
theorem zu_rbi_4 (hL : zt_L ρ o i = 4) (hc : zx_cnt ρ o 2 (ρ 0 2) - zx_cnt ρ o 2 (i + 1) = c) : zu_rbi ρ o V i = zq_and (zq_shr (V 2) c) 1 := by unfold zu_rbi; rw [if_neg (by omega), if_neg (by omega), if_pos hL, hc]
theorem zu_rbi_5 (hL : zt_L ρ o i = 5) (hc : zx_cnt ρ o 3 (ρ 0 2) - zx_cnt ρ o 3 (i + 1) = c) : zu_rbi ρ o V i = zq_and (zq_shr (V 3) c) 1 := by unfold zu_rbi; rw [if_neg (by omega), if_neg (by omega), if_neg (by omega), if_pos hL, hc]
theorem zu_rbi_b (hL : zt_L ρ o i ≤ 1) : zu_rbi ρ o V i = zt_L ρ o i := by unfold zu_rbi; rw [if_neg (by omega), if_neg (by omega), if_neg (by omega), if_neg (by omega)]
theorem zu_rbt_s {k bit : Int} (h : 0 ≤ k) (hb : zu_rbi ρ o V k = bit) (h01 : bit = 0 ∨ bit = 1) : zu_rbt ρ o V (k + 1) = 2 * zu_rbt ρ o V k + bit := by
  unfold zu_rbt
  rw [zt_mk_e _ h]
  show 2 * zt_mk (fun i => decide (zu_rbi ρ o V i = 1)) k + (if decide (zu_rbi ρ o V k = 1) = true then 1 else 0) = _
  rw [hb]
  rcases h01 with e | e
  · rw [if_neg (fun q => absurd (of_decide_eq_true q) (by omega)), e]
  · rw [if_pos (decide_eq_true e), e]
end ZUrbi
theorem zu_rbt_fr {σ τ : zq_S} {o k : Int} {V : Int → Int} (h2 : ∀ i, τ 2 i = σ 2 i) (hb : τ 0 2 = σ 0 2) : zu_rbt τ o V k = zu_rbt σ o V k := by
  have e : ∀ i, zu_rbi τ o V i = zu_rbi σ o V i := fun i => by
    unfold zu_rbi
    rw [zt_L_fr h2, hb]
    simp only [zx_cnt_fr h2]
  unfold zu_rbt
  simp only [e]

